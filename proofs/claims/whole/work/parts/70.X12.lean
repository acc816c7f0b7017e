abbrev uX12_thrown : ao_Mi := (yX12_thrown, cX12_thrown, 1, (some .int), [])
def gX12_thrown (r0 : Nat) (M : ao_M) (ρ : ao_H) : Option (Int32 × ao_M) :=
  if ρ.2.1 r0 = 22 then
  some ((M r0 0), M)
  else none
set_option maxRecDepth 100000 in
set_option maxHeartbeats 4000000 in
theorem aX12_thrown {Γ : ao_C} (d : Nat) (hd : 0 ≤ d) (r0 : Nat) (M : ao_M) (ρ : ao_H) {y : Int32 × ao_M} (h : gX12_thrown r0 M ρ = some y) : ao_A Γ uX12_thrown d 0 0 [.ref (Γ.2.2.2 + r0)] (M, ρ) (ao_PI ρ y) := by
  refine ao_of (by decide) (ao_cat1 (Nat.le_of_ble_eq_true rfl)) (Nat.le_of_ble_eq_true rfl) ?_
  show ao_W Γ uX12_thrown (ao_rm d 0 0) (ao_Q Γ (ao_PI ρ y) 0 0) 0 0 0 [some (.ref (Γ.2.2.2 + r0))] [] (M, ρ)
  unfold gX12_thrown at h
  refine ao_aload_n 0 dX12_thrown_0 rfl rfl ?_
  obtain ⟨hk1, h⟩ := ao_some h
  refine an_getI r0 12 0 (q := (RX12, TX12, 83)) dX12_thrown_1 rfl hk1 (Nat.le_of_ble_eq_true rfl) rfl lf_X12_1 ?_
  cases h
  exact ao_ireturn dX12_thrown_4 rfl rfl ⟨rfl, rfl⟩

abbrev uX12_fails : ao_Mi := (yX12_fails, cX12_fails, 2, (some .boolean), [])
def gX12_fails (r0 : Nat) (x1 : Int32) (M : ao_M) (ρ : ao_H) : Option (Int32 × ao_M) :=
  if ρ.2.1 r0 = 22 then
  ao_let (ao_u M r0 0 x1) fun M2 =>
  if x1 = 0 then
    some ((0 : Int32), M2)
  else
    some ((1 : Int32), M2)
  else none
set_option maxRecDepth 100000 in
set_option maxHeartbeats 4000000 in
theorem aX12_fails {Γ : ao_C} (d : Nat) (hd : 0 ≤ d) (r0 : Nat) (x1 : Int32) (M : ao_M) (ρ : ao_H) {y : Int32 × ao_M} (h : gX12_fails r0 x1 M ρ = some y) : ao_A Γ uX12_fails d 0 0 [.ref (Γ.2.2.2 + r0), .int x1] (M, ρ) (ao_PI ρ y) := by
  refine ao_of (by decide) (ao_cat1 (Nat.le_of_ble_eq_true rfl)) (Nat.le_of_ble_eq_true rfl) ?_
  show ao_W Γ uX12_fails (ao_rm d 0 0) (ao_Q Γ (ao_PI ρ y) 0 0) 0 0 0 [some (.ref (Γ.2.2.2 + r0)), some (.int x1)] [] (M, ρ)
  unfold gX12_fails at h
  refine ao_aload_n 0 dX12_fails_0 rfl rfl ?_
  refine ao_iload_n 1 dX12_fails_1 rfl rfl ?_
  obtain ⟨hk1, h⟩ := ao_some h
  refine an_putI r0 12 0 (q := (RX12, TX12, 83)) dX12_fails_2 rfl hk1 (Nat.le_of_ble_eq_true rfl) lf_X12_1 rfl rfl rfl rfl (fun M2 hM2 => ?_)
  replace h := ao_letD h hM2
  refine ao_iload_n 1 dX12_fails_5 rfl rfl ?_
  refine ao_if_eq 13 dX12_fails_6 (by decide) (fun c3 => ?_) (fun c3 => ?_)
  · replace h := ao_ifT h c3
    refine ao_iconst (v := 0) dX12_fails_13 (by decide) ?_
    cases h
    exact ao_ireturn dX12_fails_14 rfl rfl ⟨rfl, rfl⟩
  · replace h := ao_ifF h c3
    refine ao_iconst (v := 1) dX12_fails_9 (by decide) ?_
    refine ao_goto 14 dX12_fails_10 (by decide) ?_
    cases h
    exact ao_ireturn dX12_fails_14 rfl rfl ⟨rfl, rfl⟩

abbrev uX12_wrong : ao_Mi := (yX12_wrong, cX12_wrong, 2, (some (.object "AsOneHouseModel$Broken")), [])
def gX12_wrong (r0 : Nat) (x1 : Int32) (M : ao_M) (ρ : ao_H) : Option (Nat × ao_M) :=
  if ρ.2.1 r0 = 22 then
  ao_let (ao_u M r0 2 x1) fun M2 =>
  (ρ.1 r0 1).bind fun j3 =>
  some (j3, M2)
  else none
set_option maxRecDepth 100000 in
set_option maxHeartbeats 4000000 in
theorem aX12_wrong {Γ : ao_C} (d : Nat) (hd : 0 ≤ d) (r0 : Nat) (x1 : Int32) (M : ao_M) (ρ : ao_H) {y : Nat × ao_M} (h : gX12_wrong r0 x1 M ρ = some y) : ao_A Γ uX12_wrong d 0 0 [.ref (Γ.2.2.2 + r0), .int x1] (M, ρ) (ao_PR Γ ρ y) := by
  refine ao_of (by decide) (ao_cat1 (Nat.le_of_ble_eq_true rfl)) (Nat.le_of_ble_eq_true rfl) ?_
  show ao_W Γ uX12_wrong (ao_rm d 0 0) (ao_Q Γ (ao_PR Γ ρ y) 0 0) 0 0 0 [some (.ref (Γ.2.2.2 + r0)), some (.int x1)] [] (M, ρ)
  unfold gX12_wrong at h
  refine ao_aload_n 0 dX12_wrong_0 rfl rfl ?_
  refine ao_iload_n 1 dX12_wrong_1 rfl rfl ?_
  obtain ⟨hk1, h⟩ := ao_some h
  refine an_putI r0 12 2 (q := (RX12, TX12, 83)) dX12_wrong_2 rfl hk1 (Nat.le_of_ble_eq_true rfl) lf_X12_7 rfl rfl rfl rfl (fun M2 hM2 => ?_)
  replace h := ao_letD h hM2
  refine ao_aload_n 0 dX12_wrong_5 rfl rfl ?_
  obtain ⟨j3, hj3, h⟩ := ao_bind h
  refine an_getR r0 12 1 (q := (RX12, TX12, 83)) dX12_wrong_6 rfl hk1 (Nat.le_of_ble_eq_true rfl) rfl lf_X12_10 hj3 ?_
  cases h
  exact ao_areturn dX12_wrong_9 rfl (Or.inl ⟨_, rfl⟩) ⟨rfl, rfl⟩

abbrev uX12_byteAt : ao_Mi := (yX12_byteAt, cX12_byteAt, 2, (some .int), [])
def gX12_byteAt (r0 : Nat) (x1 : Int32) (M : ao_M) (ρ : ao_H) : Option (Int32 × ao_M) :=
  if ρ.2.1 r0 = 22 then
  if (M r0 7) ≤ x1 then
    some ((-1 : Int32), M)
  else
    (ρ.1 r0 5).bind fun j3 =>
    if ρ.2.1 j3 = 1 then
    if ¬ (x1 < 0 ∨ ρ.2.2.1 j3 ≤ x1.toNatClampNeg) then
    some ((M j3 x1.toNatClampNeg), M)
    else none
    else none
  else none
set_option maxRecDepth 100000 in
set_option maxHeartbeats 4000000 in
theorem aX12_byteAt {Γ : ao_C} (d : Nat) (hd : 0 ≤ d) (r0 : Nat) (x1 : Int32) (M : ao_M) (ρ : ao_H) {y : Int32 × ao_M} (h : gX12_byteAt r0 x1 M ρ = some y) : ao_A Γ uX12_byteAt d 0 0 [.ref (Γ.2.2.2 + r0), .int x1] (M, ρ) (ao_PI ρ y) := by
  refine ao_of (by decide) (ao_cat1 (Nat.le_of_ble_eq_true rfl)) (Nat.le_of_ble_eq_true rfl) ?_
  show ao_W Γ uX12_byteAt (ao_rm d 0 0) (ao_Q Γ (ao_PI ρ y) 0 0) 0 0 0 [some (.ref (Γ.2.2.2 + r0)), some (.int x1)] [] (M, ρ)
  unfold gX12_byteAt at h
  refine ao_iload_n 1 dX12_byteAt_0 rfl rfl ?_
  refine ao_aload_n 0 dX12_byteAt_1 rfl rfl ?_
  obtain ⟨hk1, h⟩ := ao_some h
  refine an_getI r0 12 7 (q := (RX12, TX12, 83)) dX12_byteAt_2 rfl hk1 (Nat.le_of_ble_eq_true rfl) rfl lf_X12_14 ?_
  refine ao_icmp_ge 17 dX12_byteAt_5 (by decide) (fun c2 => ?_) (fun c2 => ?_)
  · replace h := ao_ifT h c2
    refine ao_iconst (v := (-1)) dX12_byteAt_17 (by decide) ?_
    cases h
    exact ao_ireturn dX12_byteAt_18 rfl rfl ⟨rfl, rfl⟩
  · replace h := ao_ifF h c2
    refine ao_aload_n 0 dX12_byteAt_8 rfl rfl ?_
    obtain ⟨j3, hj3, h⟩ := ao_bind h
    refine an_getR r0 12 5 (q := (RX12, TX12, 83)) dX12_byteAt_9 rfl hk1 (Nat.le_of_ble_eq_true rfl) rfl lf_X12_17 hj3 ?_
    refine ao_iload_n 1 dX12_byteAt_12 rfl rfl ?_
    obtain ⟨hk4, h⟩ := ao_some h
    obtain ⟨hb5, h⟩ := ao_some h
    refine an_baload j3 dX12_byteAt_13 hk4 hb5 ?_
    refine ao_goto 18 dX12_byteAt_14 (by decide) ?_
    cases h
    exact ao_ireturn dX12_byteAt_18 rfl rfl ⟨rfl, rfl⟩

abbrev uX12_isLetter : ao_Mi := (yX12_isLetter, cX12_isLetter, 1, (some .boolean), [])
def fX12_isLetter : Nat → Nat → Int32 →  ao_M → ao_H → Option (Int32 × ao_M)
  | 0, _, _, _, _ => none
  | n + 1, pc, x0, M, ρ =>
    if pc = 0 then
      if x0 < (97 : Int32) then
        fX12_isLetter n 12 x0 M ρ
      else
        if x0 ≤ (122 : Int32) then
          fX12_isLetter n 24 x0 M ρ
        else
          fX12_isLetter n 12 x0 M ρ
    else if pc = 12 then
      if x0 < (65 : Int32) then
        some ((0 : Int32), M)
      else
        if (90 : Int32) < x0 then
          some ((0 : Int32), M)
        else
          fX12_isLetter n 24 x0 M ρ
    else if pc = 24 then
      some ((1 : Int32), M)
    else none
def gX12_isLetter (n : Nat) (x0 : Int32) (M : ao_M) (ρ : ao_H) : Option (Int32 × ao_M) := fX12_isLetter n 0 x0 M ρ
set_option maxRecDepth 100000 in
set_option maxHeartbeats 4000000 in
theorem wX12_isLetter {Γ : ao_C} {ρ : ao_H} (d : Nat) (hd : 0 ≤ d) : ∀ n : Nat, (∀ (x0 : Int32) (M : ao_M) (y : Int32 × ao_M), fX12_isLetter n 0 x0 M ρ = some y → ao_W Γ uX12_isLetter (ao_rm d 0 0) (ao_Q Γ (ao_PI ρ y) 0 0) 0 0 0 [some (.int x0)] [] (M, ρ)) ∧ (∀ (x0 : Int32) (M : ao_M) (y : Int32 × ao_M), fX12_isLetter n 12 x0 M ρ = some y → ao_W Γ uX12_isLetter (ao_rm d 0 0) (ao_Q Γ (ao_PI ρ y) 0 0) 0 0 12 [some (.int x0)] [] (M, ρ)) ∧ (∀ (x0 : Int32) (M : ao_M) (y : Int32 × ao_M), fX12_isLetter n 24 x0 M ρ = some y → ao_W Γ uX12_isLetter (ao_rm d 0 0) (ao_Q Γ (ao_PI ρ y) 0 0) 0 0 24 [some (.int x0)] [] (M, ρ)) := by
  intro n
  induction n with
  | zero => exact ⟨fun _ _ _ h => ao_no h, fun _ _ _ h => ao_no h, fun _ _ _ h => ao_no h⟩
  | succ n ih =>
    refine ⟨?_, ?_, ?_⟩
    · intro x0 M y h
      replace h := ao_ifT h rfl
      refine ao_iload_n 0 dX12_isLetter_0 rfl rfl ?_
      refine ao_bipush (v := 97) dX12_isLetter_1 (by decide) ?_
      refine ao_icmp_lt 12 dX12_isLetter_3 (by decide) (fun c1 => ?_) (fun c1 => ?_)
      · replace h := ao_ifT h c1
        exact ih.2.1 x0 M _ h
      · replace h := ao_ifF h c1
        refine ao_iload_n 0 dX12_isLetter_6 rfl rfl ?_
        refine ao_bipush (v := 122) dX12_isLetter_7 (by decide) ?_
        refine ao_icmp_le 24 dX12_isLetter_9 (by decide) (fun c2 => ?_) (fun c2 => ?_)
        · replace h := ao_ifT h c2
          exact ih.2.2 x0 M _ h
        · replace h := ao_ifF h c2
          exact ih.2.1 x0 M _ h
    · intro x0 M y h
      replace h := ao_ifF h (by decide)
      replace h := ao_ifT h rfl
      refine ao_iload_n 0 dX12_isLetter_12 rfl rfl ?_
      refine ao_bipush (v := 65) dX12_isLetter_13 (by decide) ?_
      refine ao_icmp_lt 28 dX12_isLetter_15 (by decide) (fun c3 => ?_) (fun c3 => ?_)
      · replace h := ao_ifT h c3
        refine ao_iconst (v := 0) dX12_isLetter_28 (by decide) ?_
        cases h
        exact ao_ireturn dX12_isLetter_29 rfl rfl ⟨rfl, rfl⟩
      · replace h := ao_ifF h c3
        refine ao_iload_n 0 dX12_isLetter_18 rfl rfl ?_
        refine ao_bipush (v := 90) dX12_isLetter_19 (by decide) ?_
        refine ao_icmp_gt 28 dX12_isLetter_21 (by decide) (fun c4 => ?_) (fun c4 => ?_)
        · replace h := ao_ifT h c4
          refine ao_iconst (v := 0) dX12_isLetter_28 (by decide) ?_
          cases h
          exact ao_ireturn dX12_isLetter_29 rfl rfl ⟨rfl, rfl⟩
        · replace h := ao_ifF h c4
          exact ih.2.2 x0 M _ h
    · intro x0 M y h
      replace h := ao_ifF h (by decide)
      replace h := ao_ifF h (by decide)
      replace h := ao_ifT h rfl
      refine ao_iconst (v := 1) dX12_isLetter_24 (by decide) ?_
      refine ao_goto 29 dX12_isLetter_25 (by decide) ?_
      cases h
      exact ao_ireturn dX12_isLetter_29 rfl rfl ⟨rfl, rfl⟩
set_option maxRecDepth 100000 in
set_option maxHeartbeats 4000000 in
theorem aX12_isLetter {Γ : ao_C} (d : Nat) (hd : 0 ≤ d) (n : Nat) (x0 : Int32) (M : ao_M) (ρ : ao_H) {y : Int32 × ao_M} (h : gX12_isLetter n x0 M ρ = some y) : ao_A Γ uX12_isLetter d 0 0 [.int x0] (M, ρ) (ao_PI ρ y) := by
  refine ao_of (by decide) (ao_cat1 (Nat.le_of_ble_eq_true rfl)) (Nat.le_of_ble_eq_true rfl) ?_
  show ao_W Γ uX12_isLetter (ao_rm d 0 0) (ao_Q Γ (ao_PI ρ y) 0 0) 0 0 0 [some (.int x0)] [] (M, ρ)
  exact (wX12_isLetter d hd n).1 x0 M y h

abbrev uX12_isDigit : ao_Mi := (yX12_isDigit, cX12_isDigit, 1, (some .boolean), [])
def gX12_isDigit (x0 : Int32) (M : ao_M) (ρ : ao_H) : Option (Int32 × ao_M) :=
  if x0 < (48 : Int32) then
    some ((0 : Int32), M)
  else
    if (57 : Int32) < x0 then
      some ((0 : Int32), M)
    else
      some ((1 : Int32), M)
set_option maxRecDepth 100000 in
set_option maxHeartbeats 4000000 in
theorem aX12_isDigit {Γ : ao_C} (d : Nat) (hd : 0 ≤ d) (x0 : Int32) (M : ao_M) (ρ : ao_H) {y : Int32 × ao_M} (h : gX12_isDigit x0 M ρ = some y) : ao_A Γ uX12_isDigit d 0 0 [.int x0] (M, ρ) (ao_PI ρ y) := by
  refine ao_of (by decide) (ao_cat1 (Nat.le_of_ble_eq_true rfl)) (Nat.le_of_ble_eq_true rfl) ?_
  show ao_W Γ uX12_isDigit (ao_rm d 0 0) (ao_Q Γ (ao_PI ρ y) 0 0) 0 0 0 [some (.int x0)] [] (M, ρ)
  unfold gX12_isDigit at h
  refine ao_iload_n 0 dX12_isDigit_0 rfl rfl ?_
  refine ao_bipush (v := 48) dX12_isDigit_1 (by decide) ?_
  refine ao_icmp_lt 16 dX12_isDigit_3 (by decide) (fun c1 => ?_) (fun c1 => ?_)
  · replace h := ao_ifT h c1
    refine ao_iconst (v := 0) dX12_isDigit_16 (by decide) ?_
    cases h
    exact ao_ireturn dX12_isDigit_17 rfl rfl ⟨rfl, rfl⟩
  · replace h := ao_ifF h c1
    refine ao_iload_n 0 dX12_isDigit_6 rfl rfl ?_
    refine ao_bipush (v := 57) dX12_isDigit_7 (by decide) ?_
    refine ao_icmp_gt 16 dX12_isDigit_9 (by decide) (fun c2 => ?_) (fun c2 => ?_)
    · replace h := ao_ifT h c2
      refine ao_iconst (v := 0) dX12_isDigit_16 (by decide) ?_
      cases h
      exact ao_ireturn dX12_isDigit_17 rfl rfl ⟨rfl, rfl⟩
    · replace h := ao_ifF h c2
      refine ao_iconst (v := 1) dX12_isDigit_12 (by decide) ?_
      refine ao_goto 17 dX12_isDigit_13 (by decide) ?_
      cases h
      exact ao_ireturn dX12_isDigit_17 rfl rfl ⟨rfl, rfl⟩

abbrev uX12_isSign : ao_Mi := (yX12_isSign, cX12_isSign, 2, (some .boolean), [])
def gX12_isSign (r0 : Nat) (x1 : Int32) (M : ao_M) (ρ : ao_H) : Option (Int32 × ao_M) :=
  if ρ.2.1 r0 = 22 then
  if (M r0 9) = (5 : Int32) then
    if (M r0 10) = x1 then
      some ((1 : Int32), M)
    else
      some ((0 : Int32), M)
  else
    some ((0 : Int32), M)
  else none
set_option maxRecDepth 100000 in
set_option maxHeartbeats 4000000 in
theorem aX12_isSign {Γ : ao_C} (d : Nat) (hd : 0 ≤ d) (r0 : Nat) (x1 : Int32) (M : ao_M) (ρ : ao_H) {y : Int32 × ao_M} (h : gX12_isSign r0 x1 M ρ = some y) : ao_A Γ uX12_isSign d 0 0 [.ref (Γ.2.2.2 + r0), .int x1] (M, ρ) (ao_PI ρ y) := by
  refine ao_of (by decide) (ao_cat1 (Nat.le_of_ble_eq_true rfl)) (Nat.le_of_ble_eq_true rfl) ?_
  show ao_W Γ uX12_isSign (ao_rm d 0 0) (ao_Q Γ (ao_PI ρ y) 0 0) 0 0 0 [some (.ref (Γ.2.2.2 + r0)), some (.int x1)] [] (M, ρ)
  unfold gX12_isSign at h
  refine ao_aload_n 0 dX12_isSign_0 rfl rfl ?_
  obtain ⟨hk1, h⟩ := ao_some h
  refine an_getI r0 12 9 (q := (RX12, TX12, 83)) dX12_isSign_1 rfl hk1 (Nat.le_of_ble_eq_true rfl) rfl lf_X12_42 ?_
  refine ao_iconst (v := 5) dX12_isSign_4 (by decide) ?_
  refine ao_icmp_ne 20 dX12_isSign_5 (by decide) (fun c2 => ?_) (fun c2 => ?_)
  · replace h := ao_ifF h c2
    refine ao_iconst (v := 0) dX12_isSign_20 (by decide) ?_
    cases h
    exact ao_ireturn dX12_isSign_21 rfl rfl ⟨rfl, rfl⟩
  · replace h := ao_ifT h c2
    refine ao_aload_n 0 dX12_isSign_8 rfl rfl ?_
    refine an_getI r0 12 10 (q := (RX12, TX12, 83)) dX12_isSign_9 rfl hk1 (Nat.le_of_ble_eq_true rfl) rfl lf_X12_49 ?_
    refine ao_iload_n 1 dX12_isSign_12 rfl rfl ?_
    refine ao_icmp_ne 20 dX12_isSign_13 (by decide) (fun c3 => ?_) (fun c3 => ?_)
    · replace h := ao_ifF h c3
      refine ao_iconst (v := 0) dX12_isSign_20 (by decide) ?_
      cases h
      exact ao_ireturn dX12_isSign_21 rfl rfl ⟨rfl, rfl⟩
    · replace h := ao_ifT h c3
      refine ao_iconst (v := 1) dX12_isSign_16 (by decide) ?_
      refine ao_goto 21 dX12_isSign_17 (by decide) ?_
      cases h
      exact ao_ireturn dX12_isSign_21 rfl rfl ⟨rfl, rfl⟩

abbrev uX12_isWord : ao_Mi := (yX12_isWord, cX12_isWord, 2, (some .boolean), [])
def gX12_isWord (r0 : Nat) (x1 : Int32) (M : ao_M) (ρ : ao_H) : Option (Int32 × ao_M) :=
  if ρ.2.1 r0 = 22 then
  if (M r0 9) = (3 : Int32) then
    if (M r0 10) = x1 then
      some ((1 : Int32), M)
    else
      some ((0 : Int32), M)
  else
    some ((0 : Int32), M)
  else none
set_option maxRecDepth 100000 in
set_option maxHeartbeats 4000000 in
theorem aX12_isWord {Γ : ao_C} (d : Nat) (hd : 0 ≤ d) (r0 : Nat) (x1 : Int32) (M : ao_M) (ρ : ao_H) {y : Int32 × ao_M} (h : gX12_isWord r0 x1 M ρ = some y) : ao_A Γ uX12_isWord d 0 0 [.ref (Γ.2.2.2 + r0), .int x1] (M, ρ) (ao_PI ρ y) := by
  refine ao_of (by decide) (ao_cat1 (Nat.le_of_ble_eq_true rfl)) (Nat.le_of_ble_eq_true rfl) ?_
  show ao_W Γ uX12_isWord (ao_rm d 0 0) (ao_Q Γ (ao_PI ρ y) 0 0) 0 0 0 [some (.ref (Γ.2.2.2 + r0)), some (.int x1)] [] (M, ρ)
  unfold gX12_isWord at h
  refine ao_aload_n 0 dX12_isWord_0 rfl rfl ?_
  obtain ⟨hk1, h⟩ := ao_some h
  refine an_getI r0 12 9 (q := (RX12, TX12, 83)) dX12_isWord_1 rfl hk1 (Nat.le_of_ble_eq_true rfl) rfl lf_X12_42 ?_
  refine ao_iconst (v := 3) dX12_isWord_4 (by decide) ?_
  refine ao_icmp_ne 20 dX12_isWord_5 (by decide) (fun c2 => ?_) (fun c2 => ?_)
  · replace h := ao_ifF h c2
    refine ao_iconst (v := 0) dX12_isWord_20 (by decide) ?_
    cases h
    exact ao_ireturn dX12_isWord_21 rfl rfl ⟨rfl, rfl⟩
  · replace h := ao_ifT h c2
    refine ao_aload_n 0 dX12_isWord_8 rfl rfl ?_
    refine an_getI r0 12 10 (q := (RX12, TX12, 83)) dX12_isWord_9 rfl hk1 (Nat.le_of_ble_eq_true rfl) rfl lf_X12_49 ?_
    refine ao_iload_n 1 dX12_isWord_12 rfl rfl ?_
    refine ao_icmp_ne 20 dX12_isWord_13 (by decide) (fun c3 => ?_) (fun c3 => ?_)
    · replace h := ao_ifF h c3
      refine ao_iconst (v := 0) dX12_isWord_20 (by decide) ?_
      cases h
      exact ao_ireturn dX12_isWord_21 rfl rfl ⟨rfl, rfl⟩
    · replace h := ao_ifT h c3
      refine ao_iconst (v := 1) dX12_isWord_16 (by decide) ?_
      refine ao_goto 21 dX12_isWord_17 (by decide) ?_
      cases h
      exact ao_ireturn dX12_isWord_21 rfl rfl ⟨rfl, rfl⟩

abbrev uX12_make : ao_Mi := (yX12_make, cX12_make, 4, (some .int), [])
def gX12_make (r0 : Nat) (x1 : Int32) (x2 : Int32) (x3 : Int32) (M : ao_M) (ρ : ao_H) : Option (Int32 × ao_M) :=
  if ρ.2.1 r0 = 22 then
  (ρ.1 r0 12).bind fun j2 =>
  if ρ.2.1 j2 = 0 then
  if ¬ (((3 : Int32) * (M r0 13)) < 0 ∨ ρ.2.2.1 j2 ≤ ((3 : Int32) * (M r0 13)).toNatClampNeg) then
  ao_let (ao_u M j2 ((3 : Int32) * (M r0 13)).toNatClampNeg x1) fun M5 =>
  if ¬ ((((3 : Int32) * (M5 r0 13)) + (1 : Int32)) < 0 ∨ ρ.2.2.1 j2 ≤ (((3 : Int32) * (M5 r0 13)) + (1 : Int32)).toNatClampNeg) then
  ao_let (ao_u M5 j2 (((3 : Int32) * (M5 r0 13)) + (1 : Int32)).toNatClampNeg x2) fun M7 =>
  if ¬ ((((3 : Int32) * (M7 r0 13)) + (2 : Int32)) < 0 ∨ ρ.2.2.1 j2 ≤ (((3 : Int32) * (M7 r0 13)) + (2 : Int32)).toNatClampNeg) then
  ao_let (ao_u M7 j2 (((3 : Int32) * (M7 r0 13)) + (2 : Int32)).toNatClampNeg x3) fun M9 =>
  ao_let (ao_u M9 r0 13 ((M9 r0 13) + (1 : Int32))) fun M10 =>
  some (((M10 r0 13) - (1 : Int32)), M10)
  else none
  else none
  else none
  else none
  else none
set_option maxRecDepth 100000 in
set_option maxHeartbeats 4000000 in
theorem aX12_make {Γ : ao_C} (d : Nat) (hd : 0 ≤ d) (r0 : Nat) (x1 : Int32) (x2 : Int32) (x3 : Int32) (M : ao_M) (ρ : ao_H) {y : Int32 × ao_M} (h : gX12_make r0 x1 x2 x3 M ρ = some y) : ao_A Γ uX12_make d 0 0 [.ref (Γ.2.2.2 + r0), .int x1, .int x2, .int x3] (M, ρ) (ao_PI ρ y) := by
  refine ao_of (by decide) (ao_cat1 (Nat.le_of_ble_eq_true rfl)) (Nat.le_of_ble_eq_true rfl) ?_
  show ao_W Γ uX12_make (ao_rm d 0 0) (ao_Q Γ (ao_PI ρ y) 0 0) 0 0 0 [some (.ref (Γ.2.2.2 + r0)), some (.int x1), some (.int x2), some (.int x3)] [] (M, ρ)
  unfold gX12_make at h
  refine ao_aload_n 0 dX12_make_0 rfl rfl ?_
  obtain ⟨hk1, h⟩ := ao_some h
  obtain ⟨j2, hj2, h⟩ := ao_bind h
  refine an_getR r0 12 12 (q := (RX12, TX12, 83)) dX12_make_1 rfl hk1 (Nat.le_of_ble_eq_true rfl) rfl lf_X12_74 hj2 ?_
  refine ao_iconst (v := 3) dX12_make_4 (by decide) ?_
  refine ao_aload_n 0 dX12_make_5 rfl rfl ?_
  refine an_getI r0 12 13 (q := (RX12, TX12, 83)) dX12_make_6 rfl hk1 (Nat.le_of_ble_eq_true rfl) rfl lf_X12_78 ?_
  refine ao_imul dX12_make_9 ?_
  refine ao_iload_n 1 dX12_make_10 rfl rfl ?_
  obtain ⟨hk3, h⟩ := ao_some h
  obtain ⟨hb4, h⟩ := ao_some h
  refine an_iastore j2 dX12_make_11 hk3 hb4 (fun M5 hM5 => ?_)
  replace h := ao_letD h hM5
  refine ao_aload_n 0 dX12_make_12 rfl rfl ?_
  refine an_getR r0 12 12 (q := (RX12, TX12, 83)) dX12_make_13 rfl hk1 (Nat.le_of_ble_eq_true rfl) rfl lf_X12_74 hj2 ?_
  refine ao_iconst (v := 3) dX12_make_16 (by decide) ?_
  refine ao_aload_n 0 dX12_make_17 rfl rfl ?_
  refine an_getI r0 12 13 (q := (RX12, TX12, 83)) dX12_make_18 rfl hk1 (Nat.le_of_ble_eq_true rfl) rfl lf_X12_78 ?_
  refine ao_imul dX12_make_21 ?_
  refine ao_iconst (v := 1) dX12_make_22 (by decide) ?_
  refine ao_iadd dX12_make_23 ?_
  refine ao_iload_n 2 dX12_make_24 rfl rfl ?_
  obtain ⟨hb6, h⟩ := ao_some h
  refine an_iastore j2 dX12_make_25 hk3 hb6 (fun M7 hM7 => ?_)
  replace h := ao_letD h hM7
  refine ao_aload_n 0 dX12_make_26 rfl rfl ?_
  refine an_getR r0 12 12 (q := (RX12, TX12, 83)) dX12_make_27 rfl hk1 (Nat.le_of_ble_eq_true rfl) rfl lf_X12_74 hj2 ?_
  refine ao_iconst (v := 3) dX12_make_30 (by decide) ?_
  refine ao_aload_n 0 dX12_make_31 rfl rfl ?_
  refine an_getI r0 12 13 (q := (RX12, TX12, 83)) dX12_make_32 rfl hk1 (Nat.le_of_ble_eq_true rfl) rfl lf_X12_78 ?_
  refine ao_imul dX12_make_35 ?_
  refine ao_iconst (v := 2) dX12_make_36 (by decide) ?_
  refine ao_iadd dX12_make_37 ?_
  refine ao_iload_n 3 dX12_make_38 rfl rfl ?_
  obtain ⟨hb8, h⟩ := ao_some h
  refine an_iastore j2 dX12_make_39 hk3 hb8 (fun M9 hM9 => ?_)
  replace h := ao_letD h hM9
  refine ao_aload_n 0 dX12_make_40 rfl rfl ?_
  refine ao_dup dX12_make_41 rfl ?_
  refine an_getI r0 12 13 (q := (RX12, TX12, 83)) dX12_make_42 rfl hk1 (Nat.le_of_ble_eq_true rfl) rfl lf_X12_78 ?_
  refine ao_iconst (v := 1) dX12_make_45 (by decide) ?_
  refine ao_iadd dX12_make_46 ?_
  refine an_putI r0 12 13 (q := (RX12, TX12, 83)) dX12_make_47 rfl hk1 (Nat.le_of_ble_eq_true rfl) lf_X12_78 rfl rfl rfl rfl (fun M10 hM10 => ?_)
  replace h := ao_letD h hM10
  refine ao_aload_n 0 dX12_make_50 rfl rfl ?_
  refine an_getI r0 12 13 (q := (RX12, TX12, 83)) dX12_make_51 rfl hk1 (Nat.le_of_ble_eq_true rfl) rfl lf_X12_78 ?_
  refine ao_iconst (v := 1) dX12_make_54 (by decide) ?_
  refine ao_isub dX12_make_55 ?_
  cases h
  exact ao_ireturn dX12_make_56 rfl rfl ⟨rfl, rfl⟩

abbrev uX12_past : ao_Mi := (yX12_past, cX12_past, 4, (some .int), [])
def fX12_past : Nat → Nat → Nat → Int32 → Int32 → Int32 →  ao_M → ao_H → Option (Int32 × ao_M)
  | 0, _, _, _, _, _, _, _ => none
  | n + 1, pc, r0, x1, x2, x3, M, ρ =>
    if pc = 0 then
      if ρ.2.1 r0 = 22 then
      (ρ.1 r0 21).bind fun j2 =>
      if ρ.2.1 j2 = 0 then
      if ¬ (x1 < 0 ∨ ρ.2.2.1 j2 ≤ x1.toNatClampNeg) then
      ao_let (M j2 x1.toNatClampNeg) fun v5 =>
      fX12_past n 7 r0 x1 x2 v5 M ρ
      else none
      else none
      else none
    else if pc = 7 then
      if x3 < 0 then
        fX12_past n 31 r0 x1 x2 x3 M ρ
      else
        if ρ.2.1 r0 = 22 then
        (ρ.1 r0 22).bind fun j8 =>
        if ρ.2.1 j8 = 0 then
        if ¬ (x3 < 0 ∨ ρ.2.2.1 j8 ≤ x3.toNatClampNeg) then
        if (M j8 x3.toNatClampNeg) ≤ x2 then
          fX12_past n 31 r0 x1 x2 x3 M ρ
        else
          (ρ.1 r0 24).bind fun j12 =>
          if ρ.2.1 j12 = 0 then
          if ¬ (x3 < 0 ∨ ρ.2.2.1 j12 ≤ x3.toNatClampNeg) then
          ao_let (M j12 x3.toNatClampNeg) fun v15 =>
          fX12_past n 7 r0 x1 x2 v15 M ρ
          else none
          else none
        else none
        else none
        else none
    else if pc = 31 then
      if 0 ≤ x3 then
        if ρ.2.1 r0 = 22 then
        (ρ.1 r0 23).bind fun j18 =>
        if ρ.2.1 j18 = 0 then
        if ¬ (x3 < 0 ∨ ρ.2.2.1 j18 ≤ x3.toNatClampNeg) then
        some ((M j18 x3.toNatClampNeg), M)
        else none
        else none
        else none
      else
        some ((0 : Int32), M)
    else none
def gX12_past (n : Nat) (r0 : Nat) (x1 : Int32) (x2 : Int32) (M : ao_M) (ρ : ao_H) : Option (Int32 × ao_M) := fX12_past n 0 r0 x1 x2 0 M ρ
set_option maxRecDepth 100000 in
set_option maxHeartbeats 4000000 in
theorem wX12_past {Γ : ao_C} {ρ : ao_H} (d : Nat) (hd : 0 ≤ d) : ∀ n : Nat, (∀ (r0 : Nat) (x1 : Int32) (x2 : Int32) (M : ao_M) (y : Int32 × ao_M), fX12_past n 0 r0 x1 x2 0 M ρ = some y → ao_W Γ uX12_past (ao_rm d 0 0) (ao_Q Γ (ao_PI ρ y) 0 0) 0 0 0 [some (.ref (Γ.2.2.2 + r0)), some (.int x1), some (.int x2), none] [] (M, ρ)) ∧ (∀ (r0 : Nat) (x1 : Int32) (x2 : Int32) (x3 : Int32) (M : ao_M) (y : Int32 × ao_M), fX12_past n 7 r0 x1 x2 x3 M ρ = some y → ao_W Γ uX12_past (ao_rm d 0 0) (ao_Q Γ (ao_PI ρ y) 0 0) 0 0 7 [some (.ref (Γ.2.2.2 + r0)), some (.int x1), some (.int x2), some (.int x3)] [] (M, ρ)) ∧ (∀ (r0 : Nat) (x1 : Int32) (x2 : Int32) (x3 : Int32) (M : ao_M) (y : Int32 × ao_M), fX12_past n 31 r0 x1 x2 x3 M ρ = some y → ao_W Γ uX12_past (ao_rm d 0 0) (ao_Q Γ (ao_PI ρ y) 0 0) 0 0 31 [some (.ref (Γ.2.2.2 + r0)), some (.int x1), some (.int x2), some (.int x3)] [] (M, ρ)) := by
  intro n
  induction n with
  | zero => exact ⟨fun _ _ _ _ _ h => ao_no h, fun _ _ _ _ _ _ h => ao_no h, fun _ _ _ _ _ _ h => ao_no h⟩
  | succ n ih =>
    refine ⟨?_, ?_, ?_⟩
    · intro r0 x1 x2 M y h
      replace h := ao_ifT h rfl
      refine ao_aload_n 0 dX12_past_0 rfl rfl ?_
      obtain ⟨hk1, h⟩ := ao_some h
      obtain ⟨j2, hj2, h⟩ := ao_bind h
      refine an_getR r0 12 21 (q := (RX12, TX12, 83)) dX12_past_1 rfl hk1 (Nat.le_of_ble_eq_true rfl) rfl lf_X12_154 hj2 ?_
      refine ao_iload_n 1 dX12_past_4 rfl rfl ?_
      obtain ⟨hk3, h⟩ := ao_some h
      obtain ⟨hb4, h⟩ := ao_some h
      refine an_iaload j2 dX12_past_5 hk3 hb4 ?_
      refine an_topi (fun v5 hv5 => ?_)
      replace h := ao_letD h hv5
      refine ao_istore_n 3 (lo' := [some (.ref (Γ.2.2.2 + r0)), some (.int x1), some (.int x2), some (.int v5)]) dX12_past_6 rfl (Nat.le_of_ble_eq_true rfl) rfl ?_
      exact ih.2.1 r0 x1 x2 v5 M _ h
    · intro r0 x1 x2 x3 M y h
      replace h := ao_ifF h (by decide)
      replace h := ao_ifT h rfl
      refine ao_iload_n 3 dX12_past_7 rfl rfl ?_
      refine ao_if_lt 31 dX12_past_8 (by decide) (fun c6 => ?_) (fun c6 => ?_)
      · replace h := ao_ifT h c6
        exact ih.2.2 r0 x1 x2 x3 M _ h
      · replace h := ao_ifF h c6
        refine ao_aload_n 0 dX12_past_11 rfl rfl ?_
        obtain ⟨hk7, h⟩ := ao_some h
        obtain ⟨j8, hj8, h⟩ := ao_bind h
        refine an_getR r0 12 22 (q := (RX12, TX12, 83)) dX12_past_12 rfl hk7 (Nat.le_of_ble_eq_true rfl) rfl lf_X12_135 hj8 ?_
        refine ao_iload_n 3 dX12_past_15 rfl rfl ?_
        obtain ⟨hk9, h⟩ := ao_some h
        obtain ⟨hb10, h⟩ := ao_some h
        refine an_iaload j8 dX12_past_16 hk9 hb10 ?_
        refine ao_iload_n 2 dX12_past_17 rfl rfl ?_
        refine ao_icmp_le 31 dX12_past_18 (by decide) (fun c11 => ?_) (fun c11 => ?_)
        · replace h := ao_ifT h c11
          exact ih.2.2 r0 x1 x2 x3 M _ h
        · replace h := ao_ifF h c11
          refine ao_aload_n 0 dX12_past_21 rfl rfl ?_
          obtain ⟨j12, hj12, h⟩ := ao_bind h
          refine an_getR r0 12 24 (q := (RX12, TX12, 83)) dX12_past_22 rfl hk7 (Nat.le_of_ble_eq_true rfl) rfl lf_X12_145 hj12 ?_
          refine ao_iload_n 3 dX12_past_25 rfl rfl ?_
          obtain ⟨hk13, h⟩ := ao_some h
          obtain ⟨hb14, h⟩ := ao_some h
          refine an_iaload j12 dX12_past_26 hk13 hb14 ?_
          refine an_topi (fun v15 hv15 => ?_)
          replace h := ao_letD h hv15
          refine ao_istore_n 3 (lo' := [some (.ref (Γ.2.2.2 + r0)), some (.int x1), some (.int x2), some (.int v15)]) dX12_past_27 rfl (Nat.le_of_ble_eq_true rfl) rfl ?_
          refine ao_goto 7 dX12_past_28 (by decide) ?_
          exact ih.2.1 r0 x1 x2 v15 M _ h
    · intro r0 x1 x2 x3 M y h
      replace h := ao_ifF h (by decide)
      replace h := ao_ifF h (by decide)
      replace h := ao_ifT h rfl
      refine ao_iload_n 3 dX12_past_31 rfl rfl ?_
      refine ao_if_ge 39 dX12_past_32 (by decide) (fun c16 => ?_) (fun c16 => ?_)
      · replace h := ao_ifT h c16
        refine ao_aload_n 0 dX12_past_39 rfl rfl ?_
        obtain ⟨hk17, h⟩ := ao_some h
        obtain ⟨j18, hj18, h⟩ := ao_bind h
        refine an_getR r0 12 23 (q := (RX12, TX12, 83)) dX12_past_40 rfl hk17 (Nat.le_of_ble_eq_true rfl) rfl lf_X12_142 hj18 ?_
        refine ao_iload_n 3 dX12_past_43 rfl rfl ?_
        obtain ⟨hk19, h⟩ := ao_some h
        obtain ⟨hb20, h⟩ := ao_some h
        refine an_iaload j18 dX12_past_44 hk19 hb20 ?_
        cases h
        exact ao_ireturn dX12_past_45 rfl rfl ⟨rfl, rfl⟩
      · replace h := ao_ifF h c16
        refine ao_iconst (v := 0) dX12_past_35 (by decide) ?_
        refine ao_goto 45 dX12_past_36 (by decide) ?_
        cases h
        exact ao_ireturn dX12_past_45 rfl rfl ⟨rfl, rfl⟩
set_option maxRecDepth 100000 in
set_option maxHeartbeats 4000000 in
theorem aX12_past {Γ : ao_C} (d : Nat) (hd : 0 ≤ d) (n : Nat) (r0 : Nat) (x1 : Int32) (x2 : Int32) (M : ao_M) (ρ : ao_H) {y : Int32 × ao_M} (h : gX12_past n r0 x1 x2 M ρ = some y) : ao_A Γ uX12_past d 0 0 [.ref (Γ.2.2.2 + r0), .int x1, .int x2] (M, ρ) (ao_PI ρ y) := by
  refine ao_of (by decide) (ao_cat1 (Nat.le_of_ble_eq_true rfl)) (Nat.le_of_ble_eq_true rfl) ?_
  show ao_W Γ uX12_past (ao_rm d 0 0) (ao_Q Γ (ao_PI ρ y) 0 0) 0 0 0 [some (.ref (Γ.2.2.2 + r0)), some (.int x1), some (.int x2), none] [] (M, ρ)
  exact (wX12_past d hd n).1 r0 x1 x2 M y h

abbrev uX12_level : ao_Mi := (yX12_level, cX12_level, 3, (some .int), [])
def gX12_level (r0 : Nat) (x1 : Int32) (x2 : Int32) (M : ao_M) (ρ : ao_H) : Option (Int32 × ao_M) :=
  some (((x1 * (12 : Int32)) + x2), M)
set_option maxRecDepth 100000 in
set_option maxHeartbeats 4000000 in
theorem aX12_level {Γ : ao_C} (d : Nat) (hd : 0 ≤ d) (r0 : Nat) (x1 : Int32) (x2 : Int32) (M : ao_M) (ρ : ao_H) {y : Int32 × ao_M} (h : gX12_level r0 x1 x2 M ρ = some y) : ao_A Γ uX12_level d 0 0 [.ref (Γ.2.2.2 + r0), .int x1, .int x2] (M, ρ) (ao_PI ρ y) := by
  refine ao_of (by decide) (ao_cat1 (Nat.le_of_ble_eq_true rfl)) (Nat.le_of_ble_eq_true rfl) ?_
  show ao_W Γ uX12_level (ao_rm d 0 0) (ao_Q Γ (ao_PI ρ y) 0 0) 0 0 0 [some (.ref (Γ.2.2.2 + r0)), some (.int x1), some (.int x2)] [] (M, ρ)
  unfold gX12_level at h
  refine ao_iload_n 1 dX12_level_0 rfl rfl ?_
  refine ao_bipush (v := 12) dX12_level_1 (by decide) ?_
  refine ao_imul dX12_level_3 ?_
  refine ao_iload_n 2 dX12_level_4 rfl rfl ?_
  refine ao_iadd dX12_level_5 ?_
  cases h
  exact ao_ireturn dX12_level_6 rfl rfl ⟨rfl, rfl⟩

abbrev uX12_cell : ao_Mi := (yX12_cell, cX12_cell, 4, (some .int), [])
def gX12_cell (r0 : Nat) (x1 : Int32) (x2 : Int32) (x3 : Int32) (M : ao_M) (ρ : ao_H) : Option (Int32 × ao_M) :=
  some (((((x1 * (12 : Int32)) + x2) * (26 : Int32)) + x3), M)
set_option maxRecDepth 100000 in
set_option maxHeartbeats 4000000 in
theorem aX12_cell {Γ : ao_C} (d : Nat) (hd : 0 ≤ d) (r0 : Nat) (x1 : Int32) (x2 : Int32) (x3 : Int32) (M : ao_M) (ρ : ao_H) {y : Int32 × ao_M} (h : gX12_cell r0 x1 x2 x3 M ρ = some y) : ao_A Γ uX12_cell d 0 0 [.ref (Γ.2.2.2 + r0), .int x1, .int x2, .int x3] (M, ρ) (ao_PI ρ y) := by
  refine ao_of (by decide) (ao_cat1 (Nat.le_of_ble_eq_true rfl)) (Nat.le_of_ble_eq_true rfl) ?_
  show ao_W Γ uX12_cell (ao_rm d 0 0) (ao_Q Γ (ao_PI ρ y) 0 0) 0 0 0 [some (.ref (Γ.2.2.2 + r0)), some (.int x1), some (.int x2), some (.int x3)] [] (M, ρ)
  unfold gX12_cell at h
  refine ao_iload_n 1 dX12_cell_0 rfl rfl ?_
  refine ao_bipush (v := 12) dX12_cell_1 (by decide) ?_
  refine ao_imul dX12_cell_3 ?_
  refine ao_iload_n 2 dX12_cell_4 rfl rfl ?_
  refine ao_iadd dX12_cell_5 ?_
  refine ao_bipush (v := 26) dX12_cell_6 (by decide) ?_
  refine ao_imul dX12_cell_8 ?_
  refine ao_iload_n 3 dX12_cell_9 rfl rfl ?_
  refine ao_iadd dX12_cell_10 ?_
  cases h
  exact ao_ireturn dX12_cell_11 rfl rfl ⟨rfl, rfl⟩

abbrev uX12_clearLevel : ao_Mi := (yX12_clearLevel, cX12_clearLevel, 4, none, [])
def fX12_clearLevel : Nat → Nat → Nat → Int32 → Int32 → Int32 →  ao_M → ao_H → Option (ao_M)
  | 0, _, _, _, _, _, _, _ => none
  | n + 1, pc, r0, x1, x2, x3, M, ρ =>
    if pc = 0 then
      fX12_clearLevel n 2 r0 x1 x2 (0 : Int32) M ρ
    else if pc = 2 then
      if (26 : Int32) ≤ x3 then
        if ρ.2.1 r0 = 22 then
        (ρ.1 r0 62).bind fun j3 =>
        (gX12_level r0 x1 x2 M ρ).bind fun p4 =>
        if ρ.2.1 j3 = 0 then
        if ¬ (p4.1 < 0 ∨ ρ.2.2.1 j3 ≤ p4.1.toNatClampNeg) then
        ao_let (ao_u p4.2 j3 p4.1.toNatClampNeg (0 : Int32)) fun M7 =>
        some M7
        else none
        else none
        else none
      else
        if ρ.2.1 r0 = 22 then
        (ρ.1 r0 55).bind fun j9 =>
        (gX12_cell r0 x1 x2 x3 M ρ).bind fun p10 =>
        if ρ.2.1 j9 = 2 then
        if ¬ (p10.1 < 0 ∨ ρ.2.2.1 j9 ≤ p10.1.toNatClampNeg) then
        ao_let (ao_u p10.2 j9 p10.1.toNatClampNeg (0 : Int32)) fun M13 =>
        (ρ.1 r0 56).bind fun j14 =>
        (gX12_cell r0 x1 x2 x3 M13 ρ).bind fun p15 =>
        if ρ.2.1 j14 = 2 then
        if ¬ (p15.1 < 0 ∨ ρ.2.2.1 j14 ≤ p15.1.toNatClampNeg) then
        ao_let (ao_u p15.2 j14 p15.1.toNatClampNeg (0 : Int32)) fun M18 =>
        ao_let (x3 + (1 : Int32)) fun v19 =>
        fX12_clearLevel n 2 r0 x1 x2 v19 M18 ρ
        else none
        else none
        else none
        else none
        else none
    else none
def gX12_clearLevel (n : Nat) (r0 : Nat) (x1 : Int32) (x2 : Int32) (M : ao_M) (ρ : ao_H) : Option (ao_M) := fX12_clearLevel n 0 r0 x1 x2 0 M ρ
set_option maxRecDepth 100000 in
set_option maxHeartbeats 4000000 in
theorem wX12_clearLevel {Γ : ao_C} {ρ : ao_H} (d : Nat) (hd : 1 ≤ d) : ∀ n : Nat, (∀ (r0 : Nat) (x1 : Int32) (x2 : Int32) (M : ao_M) (y : ao_M), fX12_clearLevel n 0 r0 x1 x2 0 M ρ = some y → ao_W Γ uX12_clearLevel (ao_rm d 0 0) (ao_Q Γ (ao_PV ρ y) 0 0) 0 0 0 [some (.ref (Γ.2.2.2 + r0)), some (.int x1), some (.int x2), none] [] (M, ρ)) ∧ (∀ (r0 : Nat) (x1 : Int32) (x2 : Int32) (x3 : Int32) (M : ao_M) (y : ao_M), fX12_clearLevel n 2 r0 x1 x2 x3 M ρ = some y → ao_W Γ uX12_clearLevel (ao_rm d 0 0) (ao_Q Γ (ao_PV ρ y) 0 0) 0 0 2 [some (.ref (Γ.2.2.2 + r0)), some (.int x1), some (.int x2), some (.int x3)] [] (M, ρ)) := by
  intro n
  induction n with
  | zero => exact ⟨fun _ _ _ _ _ h => ao_no h, fun _ _ _ _ _ _ h => ao_no h⟩
  | succ n ih =>
    refine ⟨?_, ?_⟩
    · intro r0 x1 x2 M y h
      replace h := ao_ifT h rfl
      refine ao_iconst (v := 0) dX12_clearLevel_0 (by decide) ?_
      refine ao_istore_n 3 (lo' := [some (.ref (Γ.2.2.2 + r0)), some (.int x1), some (.int x2), some (.int (0 : Int32))]) dX12_clearLevel_1 rfl (Nat.le_of_ble_eq_true rfl) rfl ?_
      exact ih.2 r0 x1 x2 (0 : Int32) M _ h
    · intro r0 x1 x2 x3 M y h
      replace h := ao_ifF h (by decide)
      replace h := ao_ifT h rfl
      refine ao_iload_n 3 dX12_clearLevel_2 rfl rfl ?_
      refine ao_bipush (v := 26) dX12_clearLevel_3 (by decide) ?_
      refine ao_icmp_ge 40 dX12_clearLevel_5 (by decide) (fun c1 => ?_) (fun c1 => ?_)
      · replace h := ao_ifT h c1
        refine ao_aload_n 0 dX12_clearLevel_40 rfl rfl ?_
        obtain ⟨hk2, h⟩ := ao_some h
        obtain ⟨j3, hj3, h⟩ := ao_bind h
        refine an_getR r0 12 62 (q := (RX12, TX12, 83)) dX12_clearLevel_41 rfl hk2 (Nat.le_of_ble_eq_true rfl) rfl lf_X12_287 hj3 ?_
        refine ao_aload_n 0 dX12_clearLevel_44 rfl rfl ?_
        refine ao_iload_n 1 dX12_clearLevel_45 rfl rfl ?_
        refine ao_iload_n 2 dX12_clearLevel_46 rfl rfl ?_
        obtain ⟨p4, hp4, h⟩ := ao_bind h
        refine an_callVi r0 12 (q := (RX12, TX12, 83)) [.int x1, .int x2] (aX12_level (d - 1) (by omega) r0 x1 x2 M ρ hp4) dX12_clearLevel_47 lc_X12_360 li_X12_level ls_X12_level rfl hk2 rfl rfl (Nat.le_of_ble_eq_true rfl) (ao_hR (by omega) (by decide)) ?_
        refine ao_iconst (v := 0) dX12_clearLevel_50 (by decide) ?_
        obtain ⟨hk5, h⟩ := ao_some h
        obtain ⟨hb6, h⟩ := ao_some h
        refine an_iastore j3 dX12_clearLevel_51 hk5 hb6 (fun M7 hM7 => ?_)
        replace h := ao_letD h hM7
        cases h
        exact ao_return dX12_clearLevel_52 rfl ⟨rfl, rfl⟩
      · replace h := ao_ifF h c1
        refine ao_aload_n 0 dX12_clearLevel_8 rfl rfl ?_
        obtain ⟨hk8, h⟩ := ao_some h
        obtain ⟨j9, hj9, h⟩ := ao_bind h
        refine an_getR r0 12 55 (q := (RX12, TX12, 83)) dX12_clearLevel_9 rfl hk8 (Nat.le_of_ble_eq_true rfl) rfl lf_X12_266 hj9 ?_
        refine ao_aload_n 0 dX12_clearLevel_12 rfl rfl ?_
        refine ao_iload_n 1 dX12_clearLevel_13 rfl rfl ?_
        refine ao_iload_n 2 dX12_clearLevel_14 rfl rfl ?_
        refine ao_iload_n 3 dX12_clearLevel_15 rfl rfl ?_
        obtain ⟨p10, hp10, h⟩ := ao_bind h
        refine an_callVi r0 12 (q := (RX12, TX12, 83)) [.int x1, .int x2, .int x3] (aX12_cell (d - 1) (by omega) r0 x1 x2 x3 M ρ hp10) dX12_clearLevel_16 lc_X12_357 li_X12_cell ls_X12_cell rfl hk8 rfl rfl (Nat.le_of_ble_eq_true rfl) (ao_hR (by omega) (by decide)) ?_
        refine ao_iconst (v := 0) dX12_clearLevel_19 (by decide) ?_
        obtain ⟨hk11, h⟩ := ao_some h
        obtain ⟨hb12, h⟩ := ao_some h
        refine an_zastore j9 dX12_clearLevel_20 hk11 hb12 rfl (fun M13 hM13 => ?_)
        replace h := ao_letD h hM13
        refine ao_aload_n 0 dX12_clearLevel_21 rfl rfl ?_
        obtain ⟨j14, hj14, h⟩ := ao_bind h
        refine an_getR r0 12 56 (q := (RX12, TX12, 83)) dX12_clearLevel_22 rfl hk8 (Nat.le_of_ble_eq_true rfl) rfl lf_X12_269 hj14 ?_
        refine ao_aload_n 0 dX12_clearLevel_25 rfl rfl ?_
        refine ao_iload_n 1 dX12_clearLevel_26 rfl rfl ?_
        refine ao_iload_n 2 dX12_clearLevel_27 rfl rfl ?_
        refine ao_iload_n 3 dX12_clearLevel_28 rfl rfl ?_
        obtain ⟨p15, hp15, h⟩ := ao_bind h
        refine an_callVi r0 12 (q := (RX12, TX12, 83)) [.int x1, .int x2, .int x3] (aX12_cell (d - 1) (by omega) r0 x1 x2 x3 M13 ρ hp15) dX12_clearLevel_29 lc_X12_357 li_X12_cell ls_X12_cell rfl hk8 rfl rfl (Nat.le_of_ble_eq_true rfl) (ao_hR (by omega) (by decide)) ?_
        refine ao_iconst (v := 0) dX12_clearLevel_32 (by decide) ?_
        obtain ⟨hk16, h⟩ := ao_some h
        obtain ⟨hb17, h⟩ := ao_some h
        refine an_zastore j14 dX12_clearLevel_33 hk16 hb17 rfl (fun M18 hM18 => ?_)
        replace h := ao_letD h hM18
        obtain ⟨v19, hv19⟩ : ∃ z : Int32, z = x3 + (1 : Int32) := ⟨_, rfl⟩
        replace h := ao_letD h hv19
        refine ao_iinc 3 (v := v19) (lo' := [some (.ref (Γ.2.2.2 + r0)), some (.int x1), some (.int x2), some (.int v19)]) dX12_clearLevel_34 rfl (by rw [hv19]; rfl) (Nat.le_of_ble_eq_true rfl) rfl ?_
        refine ao_goto 2 dX12_clearLevel_37 (by decide) ?_
        exact ih.2 r0 x1 x2 v19 M18 _ h
set_option maxRecDepth 100000 in
set_option maxHeartbeats 4000000 in
theorem aX12_clearLevel {Γ : ao_C} (d : Nat) (hd : 1 ≤ d) (n : Nat) (r0 : Nat) (x1 : Int32) (x2 : Int32) (M : ao_M) (ρ : ao_H) {y : ao_M} (h : gX12_clearLevel n r0 x1 x2 M ρ = some y) : ao_A Γ uX12_clearLevel d 0 0 [.ref (Γ.2.2.2 + r0), .int x1, .int x2] (M, ρ) (ao_PV ρ y) := by
  refine ao_of (by decide) (ao_cat1 (Nat.le_of_ble_eq_true rfl)) (Nat.le_of_ble_eq_true rfl) ?_
  show ao_W Γ uX12_clearLevel (ao_rm d 0 0) (ao_Q Γ (ao_PV ρ y) 0 0) 0 0 0 [some (.ref (Γ.2.2.2 + r0)), some (.int x1), some (.int x2), none] [] (M, ρ)
  exact (wX12_clearLevel d hd n).1 r0 x1 x2 M y h

abbrev uX12_keepRegisters : ao_Mi := (yX12_keepRegisters, cX12_keepRegisters, 4, none, [])
def fX12_keepRegisters : Nat → Nat → Nat → Int32 → Int32 → Int32 →  ao_M → ao_H → Option (ao_M)
  | 0, _, _, _, _, _, _, _ => none
  | n + 1, pc, r0, x1, x2, x3, M, ρ =>
    if pc = 0 then
      fX12_keepRegisters n 2 r0 x1 x2 (0 : Int32) M ρ
    else if pc = 2 then
      if (26 : Int32) ≤ x3 then
        some M
      else
        if ρ.2.1 r0 = 22 then
        (ρ.1 r0 53).bind fun j3 =>
        (gX12_cell r0 x1 x2 x3 M ρ).bind fun p4 =>
        (ρ.1 r0 31).bind fun j5 =>
        if ρ.2.1 j5 = 0 then
        if ¬ (((x1 * (26 : Int32)) + x3) < 0 ∨ ρ.2.2.1 j5 ≤ ((x1 * (26 : Int32)) + x3).toNatClampNeg) then
        if ρ.2.1 j3 = 0 then
        if ¬ (p4.1 < 0 ∨ ρ.2.2.1 j3 ≤ p4.1.toNatClampNeg) then
        ao_let (ao_u p4.2 j3 p4.1.toNatClampNeg (p4.2 j5 ((x1 * (26 : Int32)) + x3).toNatClampNeg)) fun M10 =>
        ao_let (x3 + (1 : Int32)) fun v11 =>
        fX12_keepRegisters n 2 r0 x1 x2 v11 M10 ρ
        else none
        else none
        else none
        else none
        else none
    else none
def gX12_keepRegisters (n : Nat) (r0 : Nat) (x1 : Int32) (x2 : Int32) (M : ao_M) (ρ : ao_H) : Option (ao_M) := fX12_keepRegisters n 0 r0 x1 x2 0 M ρ
set_option maxRecDepth 100000 in
set_option maxHeartbeats 4000000 in
theorem wX12_keepRegisters {Γ : ao_C} {ρ : ao_H} (d : Nat) (hd : 1 ≤ d) : ∀ n : Nat, (∀ (r0 : Nat) (x1 : Int32) (x2 : Int32) (M : ao_M) (y : ao_M), fX12_keepRegisters n 0 r0 x1 x2 0 M ρ = some y → ao_W Γ uX12_keepRegisters (ao_rm d 0 0) (ao_Q Γ (ao_PV ρ y) 0 0) 0 0 0 [some (.ref (Γ.2.2.2 + r0)), some (.int x1), some (.int x2), none] [] (M, ρ)) ∧ (∀ (r0 : Nat) (x1 : Int32) (x2 : Int32) (x3 : Int32) (M : ao_M) (y : ao_M), fX12_keepRegisters n 2 r0 x1 x2 x3 M ρ = some y → ao_W Γ uX12_keepRegisters (ao_rm d 0 0) (ao_Q Γ (ao_PV ρ y) 0 0) 0 0 2 [some (.ref (Γ.2.2.2 + r0)), some (.int x1), some (.int x2), some (.int x3)] [] (M, ρ)) := by
  intro n
  induction n with
  | zero => exact ⟨fun _ _ _ _ _ h => ao_no h, fun _ _ _ _ _ _ h => ao_no h⟩
  | succ n ih =>
    refine ⟨?_, ?_⟩
    · intro r0 x1 x2 M y h
      replace h := ao_ifT h rfl
      refine ao_iconst (v := 0) dX12_keepRegisters_0 (by decide) ?_
      refine ao_istore_n 3 (lo' := [some (.ref (Γ.2.2.2 + r0)), some (.int x1), some (.int x2), some (.int (0 : Int32))]) dX12_keepRegisters_1 rfl (Nat.le_of_ble_eq_true rfl) rfl ?_
      exact ih.2 r0 x1 x2 (0 : Int32) M _ h
    · intro r0 x1 x2 x3 M y h
      replace h := ao_ifF h (by decide)
      replace h := ao_ifT h rfl
      refine ao_iload_n 3 dX12_keepRegisters_2 rfl rfl ?_
      refine ao_bipush (v := 26) dX12_keepRegisters_3 (by decide) ?_
      refine ao_icmp_ge 37 dX12_keepRegisters_5 (by decide) (fun c1 => ?_) (fun c1 => ?_)
      · replace h := ao_ifT h c1
        cases h
        exact ao_return dX12_keepRegisters_37 rfl ⟨rfl, rfl⟩
      · replace h := ao_ifF h c1
        refine ao_aload_n 0 dX12_keepRegisters_8 rfl rfl ?_
        obtain ⟨hk2, h⟩ := ao_some h
        obtain ⟨j3, hj3, h⟩ := ao_bind h
        refine an_getR r0 12 53 (q := (RX12, TX12, 83)) dX12_keepRegisters_9 rfl hk2 (Nat.le_of_ble_eq_true rfl) rfl lf_X12_259 hj3 ?_
        refine ao_aload_n 0 dX12_keepRegisters_12 rfl rfl ?_
        refine ao_iload_n 1 dX12_keepRegisters_13 rfl rfl ?_
        refine ao_iload_n 2 dX12_keepRegisters_14 rfl rfl ?_
        refine ao_iload_n 3 dX12_keepRegisters_15 rfl rfl ?_
        obtain ⟨p4, hp4, h⟩ := ao_bind h
        refine an_callVi r0 12 (q := (RX12, TX12, 83)) [.int x1, .int x2, .int x3] (aX12_cell (d - 1) (by omega) r0 x1 x2 x3 M ρ hp4) dX12_keepRegisters_16 lc_X12_357 li_X12_cell ls_X12_cell rfl hk2 rfl rfl (Nat.le_of_ble_eq_true rfl) (ao_hR (by omega) (by decide)) ?_
        refine ao_aload_n 0 dX12_keepRegisters_19 rfl rfl ?_
        obtain ⟨j5, hj5, h⟩ := ao_bind h
        refine an_getR r0 12 31 (q := (RX12, TX12, 83)) dX12_keepRegisters_20 rfl hk2 (Nat.le_of_ble_eq_true rfl) rfl lf_X12_193 hj5 ?_
        refine ao_iload_n 1 dX12_keepRegisters_23 rfl rfl ?_
        refine ao_bipush (v := 26) dX12_keepRegisters_24 (by decide) ?_
        refine ao_imul dX12_keepRegisters_26 ?_
        refine ao_iload_n 3 dX12_keepRegisters_27 rfl rfl ?_
        refine ao_iadd dX12_keepRegisters_28 ?_
        obtain ⟨hk6, h⟩ := ao_some h
        obtain ⟨hb7, h⟩ := ao_some h
        refine an_iaload j5 dX12_keepRegisters_29 hk6 hb7 ?_
        obtain ⟨hk8, h⟩ := ao_some h
        obtain ⟨hb9, h⟩ := ao_some h
        refine an_iastore j3 dX12_keepRegisters_30 hk8 hb9 (fun M10 hM10 => ?_)
        replace h := ao_letD h hM10
        obtain ⟨v11, hv11⟩ : ∃ z : Int32, z = x3 + (1 : Int32) := ⟨_, rfl⟩
        replace h := ao_letD h hv11
        refine ao_iinc 3 (v := v11) (lo' := [some (.ref (Γ.2.2.2 + r0)), some (.int x1), some (.int x2), some (.int v11)]) dX12_keepRegisters_31 rfl (by rw [hv11]; rfl) (Nat.le_of_ble_eq_true rfl) rfl ?_
        refine ao_goto 2 dX12_keepRegisters_34 (by decide) ?_
        exact ih.2 r0 x1 x2 v11 M10 _ h
set_option maxRecDepth 100000 in
set_option maxHeartbeats 4000000 in
theorem aX12_keepRegisters {Γ : ao_C} (d : Nat) (hd : 1 ≤ d) (n : Nat) (r0 : Nat) (x1 : Int32) (x2 : Int32) (M : ao_M) (ρ : ao_H) {y : ao_M} (h : gX12_keepRegisters n r0 x1 x2 M ρ = some y) : ao_A Γ uX12_keepRegisters d 0 0 [.ref (Γ.2.2.2 + r0), .int x1, .int x2] (M, ρ) (ao_PV ρ y) := by
  refine ao_of (by decide) (ao_cat1 (Nat.le_of_ble_eq_true rfl)) (Nat.le_of_ble_eq_true rfl) ?_
  show ao_W Γ uX12_keepRegisters (ao_rm d 0 0) (ao_Q Γ (ao_PV ρ y) 0 0) 0 0 0 [some (.ref (Γ.2.2.2 + r0)), some (.int x1), some (.int x2), none] [] (M, ρ)
  exact (wX12_keepRegisters d hd n).1 r0 x1 x2 M y h

abbrev uX12_openLevel : ao_Mi := (yX12_openLevel, cX12_openLevel, 6, none, [])
def gX12_openLevel (n : Nat) (r0 : Nat) (x1 : Int32) (x2 : Int32) (x3 : Int32) (M : ao_M) (ρ : ao_H) : Option (ao_M) :=
  if ρ.2.1 r0 = 22 then
  (ρ.1 r0 34).bind fun j2 =>
  if ρ.2.1 j2 = 0 then
  if ¬ (x1 < 0 ∨ ρ.2.2.1 j2 ≤ x1.toNatClampNeg) then
  ao_let (M j2 x1.toNatClampNeg) fun v5 =>
  (gX12_clearLevel n r0 x1 v5 M ρ).bind fun p6 =>
  (gX12_level r0 x1 v5 p6 ρ).bind fun p7 =>
  ao_let p7.1 fun v8 =>
  (ρ.1 r0 48).bind fun j9 =>
  (ρ.1 r0 30).bind fun j10 =>
  if ρ.2.1 j10 = 0 then
  if ¬ (x1 < 0 ∨ ρ.2.2.1 j10 ≤ x1.toNatClampNeg) then
  if ρ.2.1 j9 = 0 then
  if ¬ (v8 < 0 ∨ ρ.2.2.1 j9 ≤ v8.toNatClampNeg) then
  ao_let (ao_u p7.2 j9 v8.toNatClampNeg (p7.2 j10 x1.toNatClampNeg)) fun M15 =>
  (ρ.1 r0 49).bind fun j16 =>
  if ρ.2.1 j16 = 0 then
  if ¬ (v8 < 0 ∨ ρ.2.2.1 j16 ≤ v8.toNatClampNeg) then
  ao_let (ao_u M15 j16 v8.toNatClampNeg x2) fun M19 =>
  (ρ.1 r0 50).bind fun j20 =>
  if ρ.2.1 j20 = 0 then
  if ¬ (v8 < 0 ∨ ρ.2.2.1 j20 ≤ v8.toNatClampNeg) then
  ao_let (ao_u M19 j20 v8.toNatClampNeg x3) fun M23 =>
  (ρ.1 r0 54).bind fun j24 =>
  if ρ.2.1 j24 = 2 then
  if ¬ (v8 < 0 ∨ ρ.2.2.1 j24 ≤ v8.toNatClampNeg) then
  ao_let (ao_u M23 j24 v8.toNatClampNeg (0 : Int32)) fun M27 =>
  (ρ.1 r0 51).bind fun j28 =>
  (ρ.1 r0 35).bind fun j29 =>
  if ρ.2.1 j29 = 0 then
  if ¬ (x1 < 0 ∨ ρ.2.2.1 j29 ≤ x1.toNatClampNeg) then
  if ρ.2.1 j28 = 0 then
  if ¬ (v8 < 0 ∨ ρ.2.2.1 j28 ≤ v8.toNatClampNeg) then
  ao_let (ao_u M27 j28 v8.toNatClampNeg (M27 j29 x1.toNatClampNeg)) fun M34 =>
  (ρ.1 r0 52).bind fun j35 =>
  (ρ.1 r0 36).bind fun j36 =>
  if ρ.2.1 j36 = 0 then
  if ¬ (x1 < 0 ∨ ρ.2.2.1 j36 ≤ x1.toNatClampNeg) then
  if ρ.2.1 j35 = 0 then
  if ¬ (v8 < 0 ∨ ρ.2.2.1 j35 ≤ v8.toNatClampNeg) then
  ao_let (ao_u M34 j35 v8.toNatClampNeg (M34 j36 x1.toNatClampNeg)) fun M41 =>
  (gX12_keepRegisters n r0 x1 v5 M41 ρ).bind fun p42 =>
  ao_let (ao_u p42 j2 x1.toNatClampNeg ((p42 j2 x1.toNatClampNeg) + (1 : Int32))) fun M43 =>
  some M43
  else none
  else none
  else none
  else none
  else none
  else none
  else none
  else none
  else none
  else none
  else none
  else none
  else none
  else none
  else none
  else none
  else none
  else none
  else none
  else none
  else none
set_option maxRecDepth 100000 in
set_option maxHeartbeats 4000000 in
theorem aX12_openLevel {Γ : ao_C} (d : Nat) (hd : 2 ≤ d) (n : Nat) (r0 : Nat) (x1 : Int32) (x2 : Int32) (x3 : Int32) (M : ao_M) (ρ : ao_H) {y : ao_M} (h : gX12_openLevel n r0 x1 x2 x3 M ρ = some y) : ao_A Γ uX12_openLevel d 0 0 [.ref (Γ.2.2.2 + r0), .int x1, .int x2, .int x3] (M, ρ) (ao_PV ρ y) := by
  refine ao_of (by decide) (ao_cat1 (Nat.le_of_ble_eq_true rfl)) (Nat.le_of_ble_eq_true rfl) ?_
  show ao_W Γ uX12_openLevel (ao_rm d 0 0) (ao_Q Γ (ao_PV ρ y) 0 0) 0 0 0 [some (.ref (Γ.2.2.2 + r0)), some (.int x1), some (.int x2), some (.int x3), none, none] [] (M, ρ)
  unfold gX12_openLevel at h
  refine ao_aload_n 0 dX12_openLevel_0 rfl rfl ?_
  obtain ⟨hk1, h⟩ := ao_some h
  obtain ⟨j2, hj2, h⟩ := ao_bind h
  refine an_getR r0 12 34 (q := (RX12, TX12, 83)) dX12_openLevel_1 rfl hk1 (Nat.le_of_ble_eq_true rfl) rfl lf_X12_202 hj2 ?_
  refine ao_iload_n 1 dX12_openLevel_4 rfl rfl ?_
  obtain ⟨hk3, h⟩ := ao_some h
  obtain ⟨hb4, h⟩ := ao_some h
  refine an_iaload j2 dX12_openLevel_5 hk3 hb4 ?_
  refine an_topi (fun v5 hv5 => ?_)
  replace h := ao_letD h hv5
  refine ao_istore 4 (lo' := [some (.ref (Γ.2.2.2 + r0)), some (.int x1), some (.int x2), some (.int x3), some (.int v5), none]) dX12_openLevel_6 (Nat.le_of_ble_eq_true rfl) rfl ?_
  refine ao_aload_n 0 dX12_openLevel_8 rfl rfl ?_
  refine ao_iload_n 1 dX12_openLevel_9 rfl rfl ?_
  refine ao_iload 4 dX12_openLevel_10 rfl ?_
  obtain ⟨p6, hp6, h⟩ := ao_bind h
  refine an_callVv r0 12 (q := (RX12, TX12, 83)) [.int x1, .int v5] (aX12_clearLevel (d - 1) (by omega) _ r0 x1 v5 M ρ hp6) dX12_openLevel_12 lc_X12_353 li_X12_clearLevel ls_X12_clearLevel rfl hk1 rfl rfl (Nat.le_of_ble_eq_true rfl) (ao_hR (by omega) (by decide)) ?_
  refine ao_aload_n 0 dX12_openLevel_15 rfl rfl ?_
  refine ao_iload_n 1 dX12_openLevel_16 rfl rfl ?_
  refine ao_iload 4 dX12_openLevel_17 rfl ?_
  obtain ⟨p7, hp7, h⟩ := ao_bind h
  refine an_callVi r0 12 (q := (RX12, TX12, 83)) [.int x1, .int v5] (aX12_level (d - 1) (by omega) r0 x1 v5 p6 ρ hp7) dX12_openLevel_19 lc_X12_360 li_X12_level ls_X12_level rfl hk1 rfl rfl (Nat.le_of_ble_eq_true rfl) (ao_hR (by omega) (by decide)) ?_
  refine an_topi (fun v8 hv8 => ?_)
  replace h := ao_letD h hv8
  refine ao_istore 5 (lo' := [some (.ref (Γ.2.2.2 + r0)), some (.int x1), some (.int x2), some (.int x3), some (.int v5), some (.int v8)]) dX12_openLevel_22 (Nat.le_of_ble_eq_true rfl) rfl ?_
  refine ao_aload_n 0 dX12_openLevel_24 rfl rfl ?_
  obtain ⟨j9, hj9, h⟩ := ao_bind h
  refine an_getR r0 12 48 (q := (RX12, TX12, 83)) dX12_openLevel_25 rfl hk1 (Nat.le_of_ble_eq_true rfl) rfl lf_X12_244 hj9 ?_
  refine ao_iload 5 dX12_openLevel_28 rfl ?_
  refine ao_aload_n 0 dX12_openLevel_30 rfl rfl ?_
  obtain ⟨j10, hj10, h⟩ := ao_bind h
  refine an_getR r0 12 30 (q := (RX12, TX12, 83)) dX12_openLevel_31 rfl hk1 (Nat.le_of_ble_eq_true rfl) rfl lf_X12_190 hj10 ?_
  refine ao_iload_n 1 dX12_openLevel_34 rfl rfl ?_
  obtain ⟨hk11, h⟩ := ao_some h
  obtain ⟨hb12, h⟩ := ao_some h
  refine an_iaload j10 dX12_openLevel_35 hk11 hb12 ?_
  obtain ⟨hk13, h⟩ := ao_some h
  obtain ⟨hb14, h⟩ := ao_some h
  refine an_iastore j9 dX12_openLevel_36 hk13 hb14 (fun M15 hM15 => ?_)
  replace h := ao_letD h hM15
  refine ao_aload_n 0 dX12_openLevel_37 rfl rfl ?_
  obtain ⟨j16, hj16, h⟩ := ao_bind h
  refine an_getR r0 12 49 (q := (RX12, TX12, 83)) dX12_openLevel_38 rfl hk1 (Nat.le_of_ble_eq_true rfl) rfl lf_X12_247 hj16 ?_
  refine ao_iload 5 dX12_openLevel_41 rfl ?_
  refine ao_iload_n 2 dX12_openLevel_43 rfl rfl ?_
  obtain ⟨hk17, h⟩ := ao_some h
  obtain ⟨hb18, h⟩ := ao_some h
  refine an_iastore j16 dX12_openLevel_44 hk17 hb18 (fun M19 hM19 => ?_)
  replace h := ao_letD h hM19
  refine ao_aload_n 0 dX12_openLevel_45 rfl rfl ?_
  obtain ⟨j20, hj20, h⟩ := ao_bind h
  refine an_getR r0 12 50 (q := (RX12, TX12, 83)) dX12_openLevel_46 rfl hk1 (Nat.le_of_ble_eq_true rfl) rfl lf_X12_250 hj20 ?_
  refine ao_iload 5 dX12_openLevel_49 rfl ?_
  refine ao_iload_n 3 dX12_openLevel_51 rfl rfl ?_
  obtain ⟨hk21, h⟩ := ao_some h
  obtain ⟨hb22, h⟩ := ao_some h
  refine an_iastore j20 dX12_openLevel_52 hk21 hb22 (fun M23 hM23 => ?_)
  replace h := ao_letD h hM23
  refine ao_aload_n 0 dX12_openLevel_53 rfl rfl ?_
  obtain ⟨j24, hj24, h⟩ := ao_bind h
  refine an_getR r0 12 54 (q := (RX12, TX12, 83)) dX12_openLevel_54 rfl hk1 (Nat.le_of_ble_eq_true rfl) rfl lf_X12_262 hj24 ?_
  refine ao_iload 5 dX12_openLevel_57 rfl ?_
  refine ao_iconst (v := 0) dX12_openLevel_59 (by decide) ?_
  obtain ⟨hk25, h⟩ := ao_some h
  obtain ⟨hb26, h⟩ := ao_some h
  refine an_zastore j24 dX12_openLevel_60 hk25 hb26 rfl (fun M27 hM27 => ?_)
  replace h := ao_letD h hM27
  refine ao_aload_n 0 dX12_openLevel_61 rfl rfl ?_
  obtain ⟨j28, hj28, h⟩ := ao_bind h
  refine an_getR r0 12 51 (q := (RX12, TX12, 83)) dX12_openLevel_62 rfl hk1 (Nat.le_of_ble_eq_true rfl) rfl lf_X12_253 hj28 ?_
  refine ao_iload 5 dX12_openLevel_65 rfl ?_
  refine ao_aload_n 0 dX12_openLevel_67 rfl rfl ?_
  obtain ⟨j29, hj29, h⟩ := ao_bind h
  refine an_getR r0 12 35 (q := (RX12, TX12, 83)) dX12_openLevel_68 rfl hk1 (Nat.le_of_ble_eq_true rfl) rfl lf_X12_205 hj29 ?_
  refine ao_iload_n 1 dX12_openLevel_71 rfl rfl ?_
  obtain ⟨hk30, h⟩ := ao_some h
  obtain ⟨hb31, h⟩ := ao_some h
  refine an_iaload j29 dX12_openLevel_72 hk30 hb31 ?_
  obtain ⟨hk32, h⟩ := ao_some h
  obtain ⟨hb33, h⟩ := ao_some h
  refine an_iastore j28 dX12_openLevel_73 hk32 hb33 (fun M34 hM34 => ?_)
  replace h := ao_letD h hM34
  refine ao_aload_n 0 dX12_openLevel_74 rfl rfl ?_
  obtain ⟨j35, hj35, h⟩ := ao_bind h
  refine an_getR r0 12 52 (q := (RX12, TX12, 83)) dX12_openLevel_75 rfl hk1 (Nat.le_of_ble_eq_true rfl) rfl lf_X12_256 hj35 ?_
  refine ao_iload 5 dX12_openLevel_78 rfl ?_
  refine ao_aload_n 0 dX12_openLevel_80 rfl rfl ?_
  obtain ⟨j36, hj36, h⟩ := ao_bind h
  refine an_getR r0 12 36 (q := (RX12, TX12, 83)) dX12_openLevel_81 rfl hk1 (Nat.le_of_ble_eq_true rfl) rfl lf_X12_208 hj36 ?_
  refine ao_iload_n 1 dX12_openLevel_84 rfl rfl ?_
  obtain ⟨hk37, h⟩ := ao_some h
  obtain ⟨hb38, h⟩ := ao_some h
  refine an_iaload j36 dX12_openLevel_85 hk37 hb38 ?_
  obtain ⟨hk39, h⟩ := ao_some h
  obtain ⟨hb40, h⟩ := ao_some h
  refine an_iastore j35 dX12_openLevel_86 hk39 hb40 (fun M41 hM41 => ?_)
  replace h := ao_letD h hM41
  refine ao_aload_n 0 dX12_openLevel_87 rfl rfl ?_
  refine ao_iload_n 1 dX12_openLevel_88 rfl rfl ?_
  refine ao_iload 4 dX12_openLevel_89 rfl ?_
  obtain ⟨p42, hp42, h⟩ := ao_bind h
  refine an_callVv r0 12 (q := (RX12, TX12, 83)) [.int x1, .int v5] (aX12_keepRegisters (d - 1) (by omega) _ r0 x1 v5 M41 ρ hp42) dX12_openLevel_91 lc_X12_363 li_X12_keepRegisters ls_X12_keepRegisters rfl hk1 rfl rfl (Nat.le_of_ble_eq_true rfl) (ao_hR (by omega) (by decide)) ?_
  refine ao_aload_n 0 dX12_openLevel_94 rfl rfl ?_
  refine an_getR r0 12 34 (q := (RX12, TX12, 83)) dX12_openLevel_95 rfl hk1 (Nat.le_of_ble_eq_true rfl) rfl lf_X12_202 hj2 ?_
  refine ao_iload_n 1 dX12_openLevel_98 rfl rfl ?_
  refine ao_dup2 dX12_openLevel_99 rfl rfl ?_
  refine an_iaload j2 dX12_openLevel_100 hk3 hb4 ?_
  refine ao_iconst (v := 1) dX12_openLevel_101 (by decide) ?_
  refine ao_iadd dX12_openLevel_102 ?_
  refine an_iastore j2 dX12_openLevel_103 hk3 hb4 (fun M43 hM43 => ?_)
  replace h := ao_letD h hM43
  cases h
  exact ao_return dX12_openLevel_104 rfl ⟨rfl, rfl⟩

abbrev uX12_isEager : ao_Mi := (yX12_isEager, cX12_isEager, 1, (some .boolean), [])
def fX12_isEager : Nat → Nat → Nat →  ao_M → ao_H → Option (Int32 × ao_M)
  | 0, _, _, _, _ => none
  | n + 1, pc, r0, M, ρ =>
    if pc = 0 then
      if ρ.2.1 r0 = 22 then
      if (M r0 27) = (3 : Int32) then
        fX12_isEager n 16 r0 M ρ
      else
        if (M r0 27) = (4 : Int32) then
          fX12_isEager n 16 r0 M ρ
        else
          some ((0 : Int32), M)
      else none
    else if pc = 16 then
      some ((1 : Int32), M)
    else none
def gX12_isEager (n : Nat) (r0 : Nat) (M : ao_M) (ρ : ao_H) : Option (Int32 × ao_M) := fX12_isEager n 0 r0 M ρ
set_option maxRecDepth 100000 in
set_option maxHeartbeats 4000000 in
theorem wX12_isEager {Γ : ao_C} {ρ : ao_H} (d : Nat) (hd : 0 ≤ d) : ∀ n : Nat, (∀ (r0 : Nat) (M : ao_M) (y : Int32 × ao_M), fX12_isEager n 0 r0 M ρ = some y → ao_W Γ uX12_isEager (ao_rm d 0 0) (ao_Q Γ (ao_PI ρ y) 0 0) 0 0 0 [some (.ref (Γ.2.2.2 + r0))] [] (M, ρ)) ∧ (∀ (r0 : Nat) (M : ao_M) (y : Int32 × ao_M), fX12_isEager n 16 r0 M ρ = some y → ao_W Γ uX12_isEager (ao_rm d 0 0) (ao_Q Γ (ao_PI ρ y) 0 0) 0 0 16 [some (.ref (Γ.2.2.2 + r0))] [] (M, ρ)) := by
  intro n
  induction n with
  | zero => exact ⟨fun _ _ _ h => ao_no h, fun _ _ _ h => ao_no h⟩
  | succ n ih =>
    refine ⟨?_, ?_⟩
    · intro r0 M y h
      replace h := ao_ifT h rfl
      refine ao_aload_n 0 dX12_isEager_0 rfl rfl ?_
      obtain ⟨hk1, h⟩ := ao_some h
      refine an_getI r0 12 27 (q := (RX12, TX12, 83)) dX12_isEager_1 rfl hk1 (Nat.le_of_ble_eq_true rfl) rfl lf_X12_332 ?_
      refine ao_iconst (v := 3) dX12_isEager_4 (by decide) ?_
      refine ao_icmp_eq 16 dX12_isEager_5 (by decide) (fun c2 => ?_) (fun c2 => ?_)
      · replace h := ao_ifT h c2
        exact ih.2 r0 M _ h
      · replace h := ao_ifF h c2
        refine ao_aload_n 0 dX12_isEager_8 rfl rfl ?_
        refine an_getI r0 12 27 (q := (RX12, TX12, 83)) dX12_isEager_9 rfl hk1 (Nat.le_of_ble_eq_true rfl) rfl lf_X12_332 ?_
        refine ao_iconst (v := 4) dX12_isEager_12 (by decide) ?_
        refine ao_icmp_ne 20 dX12_isEager_13 (by decide) (fun c3 => ?_) (fun c3 => ?_)
        · replace h := ao_ifF h c3
          refine ao_iconst (v := 0) dX12_isEager_20 (by decide) ?_
          cases h
          exact ao_ireturn dX12_isEager_21 rfl rfl ⟨rfl, rfl⟩
        · replace h := ao_ifT h c3
          exact ih.2 r0 M _ h
    · intro r0 M y h
      replace h := ao_ifF h (by decide)
      replace h := ao_ifT h rfl
      refine ao_iconst (v := 1) dX12_isEager_16 (by decide) ?_
      refine ao_goto 21 dX12_isEager_17 (by decide) ?_
      cases h
      exact ao_ireturn dX12_isEager_21 rfl rfl ⟨rfl, rfl⟩
set_option maxRecDepth 100000 in
set_option maxHeartbeats 4000000 in
theorem aX12_isEager {Γ : ao_C} (d : Nat) (hd : 0 ≤ d) (n : Nat) (r0 : Nat) (M : ao_M) (ρ : ao_H) {y : Int32 × ao_M} (h : gX12_isEager n r0 M ρ = some y) : ao_A Γ uX12_isEager d 0 0 [.ref (Γ.2.2.2 + r0)] (M, ρ) (ao_PI ρ y) := by
  refine ao_of (by decide) (ao_cat1 (Nat.le_of_ble_eq_true rfl)) (Nat.le_of_ble_eq_true rfl) ?_
  show ao_W Γ uX12_isEager (ao_rm d 0 0) (ao_Q Γ (ao_PI ρ y) 0 0) 0 0 0 [some (.ref (Γ.2.2.2 + r0))] [] (M, ρ)
  exact (wX12_isEager d hd n).1 r0 M y h

abbrev uX12_giveReads : ao_Mi := (yX12_giveReads, cX12_giveReads, 6, none, [])
def fX12_giveReads : Nat → Nat → Nat → Int32 → Int32 → Int32 → Int32 →  ao_M → ao_H → Option (ao_M)
  | 0, _, _, _, _, _, _, _, _ => none
  | n + 1, pc, r0, x1, x2, x3, x4, M, ρ =>
    if pc = 0 then
      if x2 = 0 then
        some M
      else
        fX12_giveReads n 5 r0 x1 x2 0 0 M ρ
    else if pc = 5 then
      fX12_giveReads n 10 r0 x1 x2 (-1 : Int32) (0 : Int32) M ρ
    else if pc = 10 then
      if (26 : Int32) ≤ x4 then
        if 0 ≤ x3 then
          if ρ.2.1 r0 = 22 then
          (gX12_cell r0 x1 x2 x3 M ρ).bind fun p5 =>
          ao_let p5.1 fun v6 =>
          (gX12_cell r0 x1 (x2 - (1 : Int32)) x3 p5.2 ρ).bind fun p7 =>
          ao_let p7.1 fun v8 =>
          (ρ.1 r0 55).bind fun j9 =>
          if ρ.2.1 j9 = 2 then
          if ¬ (v6 < 0 ∨ ρ.2.2.1 j9 ≤ v6.toNatClampNeg) then
          ao_let (ao_u p7.2 j9 v6.toNatClampNeg (0 : Int32)) fun M12 =>
          if ¬ (v8 < 0 ∨ ρ.2.2.1 j9 ≤ v8.toNatClampNeg) then
          if (M12 j9 v8.toNatClampNeg) = 0 then
            ao_let (ao_u M12 j9 v8.toNatClampNeg (1 : Int32)) fun M15 =>
            (ρ.1 r0 57).bind fun j16 =>
            if ρ.2.1 j16 = 0 then
            if ¬ (v6 < 0 ∨ ρ.2.2.1 j16 ≤ v6.toNatClampNeg) then
            if ¬ (v8 < 0 ∨ ρ.2.2.1 j16 ≤ v8.toNatClampNeg) then
            ao_let (ao_u M15 j16 v8.toNatClampNeg (M15 j16 v6.toNatClampNeg)) fun M20 =>
            (ρ.1 r0 58).bind fun j21 =>
            if ρ.2.1 j21 = 0 then
            if ¬ (v6 < 0 ∨ ρ.2.2.1 j21 ≤ v6.toNatClampNeg) then
            if ¬ (v8 < 0 ∨ ρ.2.2.1 j21 ≤ v8.toNatClampNeg) then
            ao_let (ao_u M20 j21 v8.toNatClampNeg (M20 j21 v6.toNatClampNeg)) fun M25 =>
            (ρ.1 r0 59).bind fun j26 =>
            if ρ.2.1 j26 = 0 then
            if ¬ (v8 < 0 ∨ ρ.2.2.1 j26 ≤ v8.toNatClampNeg) then
            ao_let (ao_u M25 j26 v8.toNatClampNeg (M25 r0 64)) fun M29 =>
            ao_let (ao_u M29 r0 64 ((M29 r0 64) + (1 : Int32))) fun M30 =>
            fX12_giveReads n 5 r0 x1 x2 0 0 M30 ρ
            else none
            else none
            else none
            else none
            else none
            else none
            else none
            else none
          else
            fX12_giveReads n 5 r0 x1 x2 0 0 M12 ρ
          else none
          else none
          else none
          else none
        else
          some M
      else
        if ρ.2.1 r0 = 22 then
        (ρ.1 r0 55).bind fun j32 =>
        (gX12_cell r0 x1 x2 x4 M ρ).bind fun p33 =>
        if ρ.2.1 j32 = 2 then
        if ¬ (p33.1 < 0 ∨ ρ.2.2.1 j32 ≤ p33.1.toNatClampNeg) then
        if (p33.2 j32 p33.1.toNatClampNeg) = 0 then
          fX12_giveReads n 68 r0 x1 x2 x3 x4 p33.2 ρ
        else
          if x3 < 0 then
            fX12_giveReads n 65 r0 x1 x2 x3 x4 p33.2 ρ
          else
            (ρ.1 r0 59).bind fun j38 =>
            (gX12_cell r0 x1 x2 x4 p33.2 ρ).bind fun p39 =>
            if ρ.2.1 j38 = 0 then
            if ¬ (p39.1 < 0 ∨ ρ.2.2.1 j38 ≤ p39.1.toNatClampNeg) then
            (gX12_cell r0 x1 x2 x3 p39.2 ρ).bind fun p42 =>
            if ¬ (p42.1 < 0 ∨ ρ.2.2.1 j38 ≤ p42.1.toNatClampNeg) then
            if (p42.2 j38 p42.1.toNatClampNeg) ≤ (p39.2 j38 p39.1.toNatClampNeg) then
              fX12_giveReads n 68 r0 x1 x2 x3 x4 p42.2 ρ
            else
              fX12_giveReads n 65 r0 x1 x2 x3 x4 p42.2 ρ
            else none
            else none
            else none
        else none
        else none
        else none
    else if pc = 65 then
      fX12_giveReads n 68 r0 x1 x2 x4 x4 M ρ
    else if pc = 68 then
      ao_let (x4 + (1 : Int32)) fun v45 =>
      fX12_giveReads n 10 r0 x1 x2 x3 v45 M ρ
    else none
def gX12_giveReads (n : Nat) (r0 : Nat) (x1 : Int32) (x2 : Int32) (M : ao_M) (ρ : ao_H) : Option (ao_M) := fX12_giveReads n 0 r0 x1 x2 0 0 M ρ
set_option maxRecDepth 100000 in
set_option maxHeartbeats 4000000 in
theorem wX12_giveReads {Γ : ao_C} {ρ : ao_H} (d : Nat) (hd : 1 ≤ d) : ∀ n : Nat, (∀ (r0 : Nat) (x1 : Int32) (x2 : Int32) (M : ao_M) (y : ao_M), fX12_giveReads n 0 r0 x1 x2 0 0 M ρ = some y → ao_W Γ uX12_giveReads (ao_rm d 0 0) (ao_Q Γ (ao_PV ρ y) 0 0) 0 0 0 [some (.ref (Γ.2.2.2 + r0)), some (.int x1), some (.int x2), none, none, none] [] (M, ρ)) ∧ (∀ (r0 : Nat) (x1 : Int32) (x2 : Int32) (M : ao_M) (y : ao_M), fX12_giveReads n 5 r0 x1 x2 0 0 M ρ = some y → ao_W Γ uX12_giveReads (ao_rm d 0 0) (ao_Q Γ (ao_PV ρ y) 0 0) 0 0 5 [some (.ref (Γ.2.2.2 + r0)), some (.int x1), some (.int x2), none, none, none] [] (M, ρ)) ∧ (∀ (r0 : Nat) (x1 : Int32) (x2 : Int32) (x3 : Int32) (x4 : Int32) (M : ao_M) (y : ao_M), fX12_giveReads n 10 r0 x1 x2 x3 x4 M ρ = some y → ao_W Γ uX12_giveReads (ao_rm d 0 0) (ao_Q Γ (ao_PV ρ y) 0 0) 0 0 10 [some (.ref (Γ.2.2.2 + r0)), some (.int x1), some (.int x2), some (.int x3), some (.int x4), none] [] (M, ρ)) ∧ (∀ (r0 : Nat) (x1 : Int32) (x2 : Int32) (x3 : Int32) (x4 : Int32) (M : ao_M) (y : ao_M), fX12_giveReads n 65 r0 x1 x2 x3 x4 M ρ = some y → ao_W Γ uX12_giveReads (ao_rm d 0 0) (ao_Q Γ (ao_PV ρ y) 0 0) 0 0 65 [some (.ref (Γ.2.2.2 + r0)), some (.int x1), some (.int x2), some (.int x3), some (.int x4), none] [] (M, ρ)) ∧ (∀ (r0 : Nat) (x1 : Int32) (x2 : Int32) (x3 : Int32) (x4 : Int32) (M : ao_M) (y : ao_M), fX12_giveReads n 68 r0 x1 x2 x3 x4 M ρ = some y → ao_W Γ uX12_giveReads (ao_rm d 0 0) (ao_Q Γ (ao_PV ρ y) 0 0) 0 0 68 [some (.ref (Γ.2.2.2 + r0)), some (.int x1), some (.int x2), some (.int x3), some (.int x4), none] [] (M, ρ)) := by
  intro n
  induction n with
  | zero => exact ⟨fun _ _ _ _ _ h => ao_no h, fun _ _ _ _ _ h => ao_no h, fun _ _ _ _ _ _ _ h => ao_no h, fun _ _ _ _ _ _ _ h => ao_no h, fun _ _ _ _ _ _ _ h => ao_no h⟩
  | succ n ih =>
    refine ⟨?_, ?_, ?_, ?_, ?_⟩
    · intro r0 x1 x2 M y h
      replace h := ao_ifT h rfl
      refine ao_iload_n 2 dX12_giveReads_0 rfl rfl ?_
      refine ao_if_ne 5 dX12_giveReads_1 (by decide) (fun c1 => ?_) (fun c1 => ?_)
      · replace h := ao_ifF h c1
        exact ih.2.1 r0 x1 x2 M _ h
      · replace h := ao_ifT h c1
        cases h
        exact ao_return dX12_giveReads_4 rfl ⟨rfl, rfl⟩
    · intro r0 x1 x2 M y h
      replace h := ao_ifF h (by decide)
      replace h := ao_ifT h rfl
      refine ao_iconst (v := (-1)) dX12_giveReads_5 (by decide) ?_
      refine ao_istore_n 3 (lo' := [some (.ref (Γ.2.2.2 + r0)), some (.int x1), some (.int x2), some (.int (-1 : Int32)), none, none]) dX12_giveReads_6 rfl (Nat.le_of_ble_eq_true rfl) rfl ?_
      refine ao_iconst (v := 0) dX12_giveReads_7 (by decide) ?_
      refine ao_istore 4 (lo' := [some (.ref (Γ.2.2.2 + r0)), some (.int x1), some (.int x2), some (.int (-1 : Int32)), some (.int (0 : Int32)), none]) dX12_giveReads_8 (Nat.le_of_ble_eq_true rfl) rfl ?_
      exact ih.2.2.1 r0 x1 x2 (-1 : Int32) (0 : Int32) M _ h
    · intro r0 x1 x2 x3 x4 M y h
      replace h := ao_ifF h (by decide)
      replace h := ao_ifF h (by decide)
      replace h := ao_ifT h rfl
      refine ao_iload 4 dX12_giveReads_10 rfl ?_
      refine ao_bipush (v := 26) dX12_giveReads_12 (by decide) ?_
      refine ao_icmp_ge 74 dX12_giveReads_14 (by decide) (fun c2 => ?_) (fun c2 => ?_)
      · replace h := ao_ifT h c2
        refine ao_iload_n 3 dX12_giveReads_74 rfl rfl ?_
        refine ao_if_ge 79 dX12_giveReads_75 (by decide) (fun c3 => ?_) (fun c3 => ?_)
        · replace h := ao_ifT h c3
          refine ao_aload_n 0 dX12_giveReads_79 rfl rfl ?_
          refine ao_iload_n 1 dX12_giveReads_80 rfl rfl ?_
          refine ao_iload_n 2 dX12_giveReads_81 rfl rfl ?_
          refine ao_iload_n 3 dX12_giveReads_82 rfl rfl ?_
          obtain ⟨hk4, h⟩ := ao_some h
          obtain ⟨p5, hp5, h⟩ := ao_bind h
          refine an_callVi r0 12 (q := (RX12, TX12, 83)) [.int x1, .int x2, .int x3] (aX12_cell (d - 1) (by omega) r0 x1 x2 x3 M ρ hp5) dX12_giveReads_83 lc_X12_357 li_X12_cell ls_X12_cell rfl hk4 rfl rfl (Nat.le_of_ble_eq_true rfl) (ao_hR (by omega) (by decide)) ?_
          refine an_topi (fun v6 hv6 => ?_)
          replace h := ao_letD h hv6
          refine ao_istore 4 (lo' := [some (.ref (Γ.2.2.2 + r0)), some (.int x1), some (.int x2), some (.int x3), some (.int v6), none]) dX12_giveReads_86 (Nat.le_of_ble_eq_true rfl) rfl ?_
          refine ao_aload_n 0 dX12_giveReads_88 rfl rfl ?_
          refine ao_iload_n 1 dX12_giveReads_89 rfl rfl ?_
          refine ao_iload_n 2 dX12_giveReads_90 rfl rfl ?_
          refine ao_iconst (v := 1) dX12_giveReads_91 (by decide) ?_
          refine ao_isub dX12_giveReads_92 ?_
          refine ao_iload_n 3 dX12_giveReads_93 rfl rfl ?_
          obtain ⟨p7, hp7, h⟩ := ao_bind h
          refine an_callVi r0 12 (q := (RX12, TX12, 83)) [.int x1, .int (x2 - (1 : Int32)), .int x3] (aX12_cell (d - 1) (by omega) r0 x1 (x2 - (1 : Int32)) x3 p5.2 ρ hp7) dX12_giveReads_94 lc_X12_357 li_X12_cell ls_X12_cell rfl hk4 rfl rfl (Nat.le_of_ble_eq_true rfl) (ao_hR (by omega) (by decide)) ?_
          refine an_topi (fun v8 hv8 => ?_)
          replace h := ao_letD h hv8
          refine ao_istore 5 (lo' := [some (.ref (Γ.2.2.2 + r0)), some (.int x1), some (.int x2), some (.int x3), some (.int v6), some (.int v8)]) dX12_giveReads_97 (Nat.le_of_ble_eq_true rfl) rfl ?_
          refine ao_aload_n 0 dX12_giveReads_99 rfl rfl ?_
          obtain ⟨j9, hj9, h⟩ := ao_bind h
          refine an_getR r0 12 55 (q := (RX12, TX12, 83)) dX12_giveReads_100 rfl hk4 (Nat.le_of_ble_eq_true rfl) rfl lf_X12_266 hj9 ?_
          refine ao_iload 4 dX12_giveReads_103 rfl ?_
          refine ao_iconst (v := 0) dX12_giveReads_105 (by decide) ?_
          obtain ⟨hk10, h⟩ := ao_some h
          obtain ⟨hb11, h⟩ := ao_some h
          refine an_zastore j9 dX12_giveReads_106 hk10 hb11 rfl (fun M12 hM12 => ?_)
          replace h := ao_letD h hM12
          refine ao_aload_n 0 dX12_giveReads_107 rfl rfl ?_
          refine an_getR r0 12 55 (q := (RX12, TX12, 83)) dX12_giveReads_108 rfl hk4 (Nat.le_of_ble_eq_true rfl) rfl lf_X12_266 hj9 ?_
          refine ao_iload 5 dX12_giveReads_111 rfl ?_
          obtain ⟨hb13, h⟩ := ao_some h
          refine an_zaload j9 dX12_giveReads_113 hk10 hb13 ?_
          refine ao_if_eq 120 dX12_giveReads_114 (by decide) (fun c14 => ?_) (fun c14 => ?_)
          · replace h := ao_ifT h c14
            refine ao_aload_n 0 dX12_giveReads_120 rfl rfl ?_
            refine an_getR r0 12 55 (q := (RX12, TX12, 83)) dX12_giveReads_121 rfl hk4 (Nat.le_of_ble_eq_true rfl) rfl lf_X12_266 hj9 ?_
            refine ao_iload 5 dX12_giveReads_124 rfl ?_
            refine ao_iconst (v := 1) dX12_giveReads_126 (by decide) ?_
            refine an_zastore j9 dX12_giveReads_127 hk10 hb13 rfl (fun M15 hM15 => ?_)
            replace h := ao_letD h hM15
            refine ao_aload_n 0 dX12_giveReads_128 rfl rfl ?_
            obtain ⟨j16, hj16, h⟩ := ao_bind h
            refine an_getR r0 12 57 (q := (RX12, TX12, 83)) dX12_giveReads_129 rfl hk4 (Nat.le_of_ble_eq_true rfl) rfl lf_X12_272 hj16 ?_
            refine ao_iload 5 dX12_giveReads_132 rfl ?_
            refine ao_aload_n 0 dX12_giveReads_134 rfl rfl ?_
            refine an_getR r0 12 57 (q := (RX12, TX12, 83)) dX12_giveReads_135 rfl hk4 (Nat.le_of_ble_eq_true rfl) rfl lf_X12_272 hj16 ?_
            refine ao_iload 4 dX12_giveReads_138 rfl ?_
            obtain ⟨hk17, h⟩ := ao_some h
            obtain ⟨hb18, h⟩ := ao_some h
            refine an_iaload j16 dX12_giveReads_140 hk17 hb18 ?_
            obtain ⟨hb19, h⟩ := ao_some h
            refine an_iastore j16 dX12_giveReads_141 hk17 hb19 (fun M20 hM20 => ?_)
            replace h := ao_letD h hM20
            refine ao_aload_n 0 dX12_giveReads_142 rfl rfl ?_
            obtain ⟨j21, hj21, h⟩ := ao_bind h
            refine an_getR r0 12 58 (q := (RX12, TX12, 83)) dX12_giveReads_143 rfl hk4 (Nat.le_of_ble_eq_true rfl) rfl lf_X12_275 hj21 ?_
            refine ao_iload 5 dX12_giveReads_146 rfl ?_
            refine ao_aload_n 0 dX12_giveReads_148 rfl rfl ?_
            refine an_getR r0 12 58 (q := (RX12, TX12, 83)) dX12_giveReads_149 rfl hk4 (Nat.le_of_ble_eq_true rfl) rfl lf_X12_275 hj21 ?_
            refine ao_iload 4 dX12_giveReads_152 rfl ?_
            obtain ⟨hk22, h⟩ := ao_some h
            obtain ⟨hb23, h⟩ := ao_some h
            refine an_iaload j21 dX12_giveReads_154 hk22 hb23 ?_
            obtain ⟨hb24, h⟩ := ao_some h
            refine an_iastore j21 dX12_giveReads_155 hk22 hb24 (fun M25 hM25 => ?_)
            replace h := ao_letD h hM25
            refine ao_aload_n 0 dX12_giveReads_156 rfl rfl ?_
            obtain ⟨j26, hj26, h⟩ := ao_bind h
            refine an_getR r0 12 59 (q := (RX12, TX12, 83)) dX12_giveReads_157 rfl hk4 (Nat.le_of_ble_eq_true rfl) rfl lf_X12_278 hj26 ?_
            refine ao_iload 5 dX12_giveReads_160 rfl ?_
            refine ao_aload_n 0 dX12_giveReads_162 rfl rfl ?_
            refine an_getI r0 12 64 (q := (RX12, TX12, 83)) dX12_giveReads_163 rfl hk4 (Nat.le_of_ble_eq_true rfl) rfl lf_X12_366 ?_
            obtain ⟨hk27, h⟩ := ao_some h
            obtain ⟨hb28, h⟩ := ao_some h
            refine an_iastore j26 dX12_giveReads_166 hk27 hb28 (fun M29 hM29 => ?_)
            replace h := ao_letD h hM29
            refine ao_aload_n 0 dX12_giveReads_167 rfl rfl ?_
            refine ao_dup dX12_giveReads_168 rfl ?_
            refine an_getI r0 12 64 (q := (RX12, TX12, 83)) dX12_giveReads_169 rfl hk4 (Nat.le_of_ble_eq_true rfl) rfl lf_X12_366 ?_
            refine ao_iconst (v := 1) dX12_giveReads_172 (by decide) ?_
            refine ao_iadd dX12_giveReads_173 ?_
            refine an_putI r0 12 64 (q := (RX12, TX12, 83)) dX12_giveReads_174 rfl hk4 (Nat.le_of_ble_eq_true rfl) lf_X12_366 rfl rfl rfl rfl (fun M30 hM30 => ?_)
            replace h := ao_letD h hM30
            refine ao_goto 5 dX12_giveReads_177 (by decide) ?_
            refine ao_loForget (lo' := [some (.ref (Γ.2.2.2 + r0)), some (.int x1), some (.int x2), none, none, none]) (ao_fgS (ao_fgS (ao_fgS (ao_fgN (ao_fgN (ao_fgN ao_fgZ)))))) ?_
            exact ih.2.1 r0 x1 x2 M30 _ h
          · replace h := ao_ifF h c14
            refine ao_goto 5 dX12_giveReads_117 (by decide) ?_
            refine ao_loForget (lo' := [some (.ref (Γ.2.2.2 + r0)), some (.int x1), some (.int x2), none, none, none]) (ao_fgS (ao_fgS (ao_fgS (ao_fgN (ao_fgN (ao_fgN ao_fgZ)))))) ?_
            exact ih.2.1 r0 x1 x2 M12 _ h
        · replace h := ao_ifF h c3
          cases h
          exact ao_return dX12_giveReads_78 rfl ⟨rfl, rfl⟩
      · replace h := ao_ifF h c2
        refine ao_aload_n 0 dX12_giveReads_17 rfl rfl ?_
        obtain ⟨hk31, h⟩ := ao_some h
        obtain ⟨j32, hj32, h⟩ := ao_bind h
        refine an_getR r0 12 55 (q := (RX12, TX12, 83)) dX12_giveReads_18 rfl hk31 (Nat.le_of_ble_eq_true rfl) rfl lf_X12_266 hj32 ?_
        refine ao_aload_n 0 dX12_giveReads_21 rfl rfl ?_
        refine ao_iload_n 1 dX12_giveReads_22 rfl rfl ?_
        refine ao_iload_n 2 dX12_giveReads_23 rfl rfl ?_
        refine ao_iload 4 dX12_giveReads_24 rfl ?_
        obtain ⟨p33, hp33, h⟩ := ao_bind h
        refine an_callVi r0 12 (q := (RX12, TX12, 83)) [.int x1, .int x2, .int x4] (aX12_cell (d - 1) (by omega) r0 x1 x2 x4 M ρ hp33) dX12_giveReads_26 lc_X12_357 li_X12_cell ls_X12_cell rfl hk31 rfl rfl (Nat.le_of_ble_eq_true rfl) (ao_hR (by omega) (by decide)) ?_
        obtain ⟨hk34, h⟩ := ao_some h
        obtain ⟨hb35, h⟩ := ao_some h
        refine an_zaload j32 dX12_giveReads_29 hk34 hb35 ?_
        refine ao_if_eq 68 dX12_giveReads_30 (by decide) (fun c36 => ?_) (fun c36 => ?_)
        · replace h := ao_ifT h c36
          exact ih.2.2.2.2 r0 x1 x2 x3 x4 p33.2 _ h
        · replace h := ao_ifF h c36
          refine ao_iload_n 3 dX12_giveReads_33 rfl rfl ?_
          refine ao_if_lt 65 dX12_giveReads_34 (by decide) (fun c37 => ?_) (fun c37 => ?_)
          · replace h := ao_ifT h c37
            exact ih.2.2.2.1 r0 x1 x2 x3 x4 p33.2 _ h
          · replace h := ao_ifF h c37
            refine ao_aload_n 0 dX12_giveReads_37 rfl rfl ?_
            obtain ⟨j38, hj38, h⟩ := ao_bind h
            refine an_getR r0 12 59 (q := (RX12, TX12, 83)) dX12_giveReads_38 rfl hk31 (Nat.le_of_ble_eq_true rfl) rfl lf_X12_278 hj38 ?_
            refine ao_aload_n 0 dX12_giveReads_41 rfl rfl ?_
            refine ao_iload_n 1 dX12_giveReads_42 rfl rfl ?_
            refine ao_iload_n 2 dX12_giveReads_43 rfl rfl ?_
            refine ao_iload 4 dX12_giveReads_44 rfl ?_
            obtain ⟨p39, hp39, h⟩ := ao_bind h
            refine an_callVi r0 12 (q := (RX12, TX12, 83)) [.int x1, .int x2, .int x4] (aX12_cell (d - 1) (by omega) r0 x1 x2 x4 p33.2 ρ hp39) dX12_giveReads_46 lc_X12_357 li_X12_cell ls_X12_cell rfl hk31 rfl rfl (Nat.le_of_ble_eq_true rfl) (ao_hR (by omega) (by decide)) ?_
            obtain ⟨hk40, h⟩ := ao_some h
            obtain ⟨hb41, h⟩ := ao_some h
            refine an_iaload j38 dX12_giveReads_49 hk40 hb41 ?_
            refine ao_aload_n 0 dX12_giveReads_50 rfl rfl ?_
            refine an_getR r0 12 59 (q := (RX12, TX12, 83)) dX12_giveReads_51 rfl hk31 (Nat.le_of_ble_eq_true rfl) rfl lf_X12_278 hj38 ?_
            refine ao_aload_n 0 dX12_giveReads_54 rfl rfl ?_
            refine ao_iload_n 1 dX12_giveReads_55 rfl rfl ?_
            refine ao_iload_n 2 dX12_giveReads_56 rfl rfl ?_
            refine ao_iload_n 3 dX12_giveReads_57 rfl rfl ?_
            obtain ⟨p42, hp42, h⟩ := ao_bind h
            refine an_callVi r0 12 (q := (RX12, TX12, 83)) [.int x1, .int x2, .int x3] (aX12_cell (d - 1) (by omega) r0 x1 x2 x3 p39.2 ρ hp42) dX12_giveReads_58 lc_X12_357 li_X12_cell ls_X12_cell rfl hk31 rfl rfl (Nat.le_of_ble_eq_true rfl) (ao_hR (by omega) (by decide)) ?_
            obtain ⟨hb43, h⟩ := ao_some h
            refine an_iaload j38 dX12_giveReads_61 hk40 hb43 ?_
            refine ao_icmp_ge 68 dX12_giveReads_62 (by decide) (fun c44 => ?_) (fun c44 => ?_)
            · replace h := ao_ifT h c44
              exact ih.2.2.2.2 r0 x1 x2 x3 x4 p42.2 _ h
            · replace h := ao_ifF h c44
              exact ih.2.2.2.1 r0 x1 x2 x3 x4 p42.2 _ h
    · intro r0 x1 x2 x3 x4 M y h
      replace h := ao_ifF h (by decide)
      replace h := ao_ifF h (by decide)
      replace h := ao_ifF h (by decide)
      replace h := ao_ifT h rfl
      refine ao_iload 4 dX12_giveReads_65 rfl ?_
      refine ao_istore_n 3 (lo' := [some (.ref (Γ.2.2.2 + r0)), some (.int x1), some (.int x2), some (.int x4), some (.int x4), none]) dX12_giveReads_67 rfl (Nat.le_of_ble_eq_true rfl) rfl ?_
      exact ih.2.2.2.2 r0 x1 x2 x4 x4 M _ h
    · intro r0 x1 x2 x3 x4 M y h
      replace h := ao_ifF h (by decide)
      replace h := ao_ifF h (by decide)
      replace h := ao_ifF h (by decide)
      replace h := ao_ifF h (by decide)
      replace h := ao_ifT h rfl
      obtain ⟨v45, hv45⟩ : ∃ z : Int32, z = x4 + (1 : Int32) := ⟨_, rfl⟩
      replace h := ao_letD h hv45
      refine ao_iinc 4 (v := v45) (lo' := [some (.ref (Γ.2.2.2 + r0)), some (.int x1), some (.int x2), some (.int x3), some (.int v45), none]) dX12_giveReads_68 rfl (by rw [hv45]; rfl) (Nat.le_of_ble_eq_true rfl) rfl ?_
      refine ao_goto 10 dX12_giveReads_71 (by decide) ?_
      exact ih.2.2.1 r0 x1 x2 x3 v45 M _ h
set_option maxRecDepth 100000 in
set_option maxHeartbeats 4000000 in
theorem aX12_giveReads {Γ : ao_C} (d : Nat) (hd : 1 ≤ d) (n : Nat) (r0 : Nat) (x1 : Int32) (x2 : Int32) (M : ao_M) (ρ : ao_H) {y : ao_M} (h : gX12_giveReads n r0 x1 x2 M ρ = some y) : ao_A Γ uX12_giveReads d 0 0 [.ref (Γ.2.2.2 + r0), .int x1, .int x2] (M, ρ) (ao_PV ρ y) := by
  refine ao_of (by decide) (ao_cat1 (Nat.le_of_ble_eq_true rfl)) (Nat.le_of_ble_eq_true rfl) ?_
  show ao_W Γ uX12_giveReads (ao_rm d 0 0) (ao_Q Γ (ao_PV ρ y) 0 0) 0 0 0 [some (.ref (Γ.2.2.2 + r0)), some (.int x1), some (.int x2), none, none, none] [] (M, ρ)
  exact (wX12_giveReads d hd n).1 r0 x1 x2 M y h

abbrev uX12_dropReads : ao_Mi := (yX12_dropReads, cX12_dropReads, 4, none, [])
def fX12_dropReads : Nat → Nat → Nat → Int32 → Int32 → Int32 →  ao_M → ao_H → Option (ao_M)
  | 0, _, _, _, _, _, _, _ => none
  | n + 1, pc, r0, x1, x2, x3, M, ρ =>
    if pc = 0 then
      fX12_dropReads n 2 r0 x1 x2 (0 : Int32) M ρ
    else if pc = 2 then
      if (26 : Int32) ≤ x3 then
        some M
      else
        if ρ.2.1 r0 = 22 then
        (ρ.1 r0 55).bind fun j3 =>
        (gX12_cell r0 x1 x2 x3 M ρ).bind fun p4 =>
        if ρ.2.1 j3 = 2 then
        if ¬ (p4.1 < 0 ∨ ρ.2.2.1 j3 ≤ p4.1.toNatClampNeg) then
        ao_let (ao_u p4.2 j3 p4.1.toNatClampNeg (0 : Int32)) fun M7 =>
        ao_let (x3 + (1 : Int32)) fun v8 =>
        fX12_dropReads n 2 r0 x1 x2 v8 M7 ρ
        else none
        else none
        else none
    else none
def gX12_dropReads (n : Nat) (r0 : Nat) (x1 : Int32) (x2 : Int32) (M : ao_M) (ρ : ao_H) : Option (ao_M) := fX12_dropReads n 0 r0 x1 x2 0 M ρ
set_option maxRecDepth 100000 in
set_option maxHeartbeats 4000000 in
theorem wX12_dropReads {Γ : ao_C} {ρ : ao_H} (d : Nat) (hd : 1 ≤ d) : ∀ n : Nat, (∀ (r0 : Nat) (x1 : Int32) (x2 : Int32) (M : ao_M) (y : ao_M), fX12_dropReads n 0 r0 x1 x2 0 M ρ = some y → ao_W Γ uX12_dropReads (ao_rm d 0 0) (ao_Q Γ (ao_PV ρ y) 0 0) 0 0 0 [some (.ref (Γ.2.2.2 + r0)), some (.int x1), some (.int x2), none] [] (M, ρ)) ∧ (∀ (r0 : Nat) (x1 : Int32) (x2 : Int32) (x3 : Int32) (M : ao_M) (y : ao_M), fX12_dropReads n 2 r0 x1 x2 x3 M ρ = some y → ao_W Γ uX12_dropReads (ao_rm d 0 0) (ao_Q Γ (ao_PV ρ y) 0 0) 0 0 2 [some (.ref (Γ.2.2.2 + r0)), some (.int x1), some (.int x2), some (.int x3)] [] (M, ρ)) := by
  intro n
  induction n with
  | zero => exact ⟨fun _ _ _ _ _ h => ao_no h, fun _ _ _ _ _ _ h => ao_no h⟩
  | succ n ih =>
    refine ⟨?_, ?_⟩
    · intro r0 x1 x2 M y h
      replace h := ao_ifT h rfl
      refine ao_iconst (v := 0) dX12_dropReads_0 (by decide) ?_
      refine ao_istore_n 3 (lo' := [some (.ref (Γ.2.2.2 + r0)), some (.int x1), some (.int x2), some (.int (0 : Int32))]) dX12_dropReads_1 rfl (Nat.le_of_ble_eq_true rfl) rfl ?_
      exact ih.2 r0 x1 x2 (0 : Int32) M _ h
    · intro r0 x1 x2 x3 M y h
      replace h := ao_ifF h (by decide)
      replace h := ao_ifT h rfl
      refine ao_iload_n 3 dX12_dropReads_2 rfl rfl ?_
      refine ao_bipush (v := 26) dX12_dropReads_3 (by decide) ?_
      refine ao_icmp_ge 27 dX12_dropReads_5 (by decide) (fun c1 => ?_) (fun c1 => ?_)
      · replace h := ao_ifT h c1
        cases h
        exact ao_return dX12_dropReads_27 rfl ⟨rfl, rfl⟩
      · replace h := ao_ifF h c1
        refine ao_aload_n 0 dX12_dropReads_8 rfl rfl ?_
        obtain ⟨hk2, h⟩ := ao_some h
        obtain ⟨j3, hj3, h⟩ := ao_bind h
        refine an_getR r0 12 55 (q := (RX12, TX12, 83)) dX12_dropReads_9 rfl hk2 (Nat.le_of_ble_eq_true rfl) rfl lf_X12_266 hj3 ?_
        refine ao_aload_n 0 dX12_dropReads_12 rfl rfl ?_
        refine ao_iload_n 1 dX12_dropReads_13 rfl rfl ?_
        refine ao_iload_n 2 dX12_dropReads_14 rfl rfl ?_
        refine ao_iload_n 3 dX12_dropReads_15 rfl rfl ?_
        obtain ⟨p4, hp4, h⟩ := ao_bind h
        refine an_callVi r0 12 (q := (RX12, TX12, 83)) [.int x1, .int x2, .int x3] (aX12_cell (d - 1) (by omega) r0 x1 x2 x3 M ρ hp4) dX12_dropReads_16 lc_X12_357 li_X12_cell ls_X12_cell rfl hk2 rfl rfl (Nat.le_of_ble_eq_true rfl) (ao_hR (by omega) (by decide)) ?_
        refine ao_iconst (v := 0) dX12_dropReads_19 (by decide) ?_
        obtain ⟨hk5, h⟩ := ao_some h
        obtain ⟨hb6, h⟩ := ao_some h
        refine an_zastore j3 dX12_dropReads_20 hk5 hb6 rfl (fun M7 hM7 => ?_)
        replace h := ao_letD h hM7
        obtain ⟨v8, hv8⟩ : ∃ z : Int32, z = x3 + (1 : Int32) := ⟨_, rfl⟩
        replace h := ao_letD h hv8
        refine ao_iinc 3 (v := v8) (lo' := [some (.ref (Γ.2.2.2 + r0)), some (.int x1), some (.int x2), some (.int v8)]) dX12_dropReads_21 rfl (by rw [hv8]; rfl) (Nat.le_of_ble_eq_true rfl) rfl ?_
        refine ao_goto 2 dX12_dropReads_24 (by decide) ?_
        exact ih.2 r0 x1 x2 v8 M7 _ h
set_option maxRecDepth 100000 in
set_option maxHeartbeats 4000000 in
theorem aX12_dropReads {Γ : ao_C} (d : Nat) (hd : 1 ≤ d) (n : Nat) (r0 : Nat) (x1 : Int32) (x2 : Int32) (M : ao_M) (ρ : ao_H) {y : ao_M} (h : gX12_dropReads n r0 x1 x2 M ρ = some y) : ao_A Γ uX12_dropReads d 0 0 [.ref (Γ.2.2.2 + r0), .int x1, .int x2] (M, ρ) (ao_PV ρ y) := by
  refine ao_of (by decide) (ao_cat1 (Nat.le_of_ble_eq_true rfl)) (Nat.le_of_ble_eq_true rfl) ?_
  show ao_W Γ uX12_dropReads (ao_rm d 0 0) (ao_Q Γ (ao_PV ρ y) 0 0) 0 0 0 [some (.ref (Γ.2.2.2 + r0)), some (.int x1), some (.int x2), none] [] (M, ρ)
  exact (wX12_dropReads d hd n).1 r0 x1 x2 M y h

abbrev uX12_takeBack : ao_Mi := (yX12_takeBack, cX12_takeBack, 5, none, [])
def fX12_takeBack : Nat → Nat → Nat → Int32 → Int32 → Int32 → Int32 →  ao_M → ao_H → Option (ao_M)
  | 0, _, _, _, _, _, _, _, _ => none
  | n + 1, pc, r0, x1, x2, x3, x4, M, ρ =>
    if pc = 0 then
      fX12_takeBack n 2 r0 x1 x2 (0 : Int32) 0 M ρ
    else if pc = 2 then
      if (26 : Int32) ≤ x3 then
        if ρ.2.1 r0 = 22 then
        (ρ.1 r0 62).bind fun j3 =>
        (gX12_level r0 x1 x2 M ρ).bind fun p4 =>
        if ρ.2.1 j3 = 0 then
        if ¬ (p4.1 < 0 ∨ ρ.2.2.1 j3 ≤ p4.1.toNatClampNeg) then
        ao_let (ao_u p4.2 j3 p4.1.toNatClampNeg (0 : Int32)) fun M7 =>
        some M7
        else none
        else none
        else none
      else
        if ρ.2.1 r0 = 22 then
        (gX12_cell r0 x1 x2 x3 M ρ).bind fun p9 =>
        ao_let p9.1 fun v10 =>
        (ρ.1 r0 56).bind fun j11 =>
        if ρ.2.1 j11 = 2 then
        if ¬ (v10 < 0 ∨ ρ.2.2.1 j11 ≤ v10.toNatClampNeg) then
        if (p9.2 j11 v10.toNatClampNeg) = 0 then
          fX12_takeBack n 47 r0 x1 x2 x3 v10 p9.2 ρ
        else
          (gX12_isEager n r0 p9.2 ρ).bind fun p15 =>
          if p15.1 = 0 then
            fX12_takeBack n 47 r0 x1 x2 x3 v10 p15.2 ρ
          else
            (ρ.1 r0 17).bind fun j17 =>
            (ρ.1 r0 60).bind fun j18 =>
            if ρ.2.1 j18 = 0 then
            if ¬ (v10 < 0 ∨ ρ.2.2.1 j18 ≤ v10.toNatClampNeg) then
            if ρ.2.1 j17 = 0 then
            if ¬ (x3 < 0 ∨ ρ.2.2.1 j17 ≤ x3.toNatClampNeg) then
            ao_let (ao_u p15.2 j17 x3.toNatClampNeg (p15.2 j18 v10.toNatClampNeg)) fun M23 =>
            fX12_takeBack n 47 r0 x1 x2 x3 v10 M23 ρ
            else none
            else none
            else none
            else none
        else none
        else none
        else none
    else if pc = 47 then
      if ρ.2.1 r0 = 22 then
      (ρ.1 r0 56).bind fun j25 =>
      if ρ.2.1 j25 = 2 then
      if ¬ (x4 < 0 ∨ ρ.2.2.1 j25 ≤ x4.toNatClampNeg) then
      ao_let (ao_u M j25 x4.toNatClampNeg (0 : Int32)) fun M28 =>
      (ρ.1 r0 31).bind fun j29 =>
      (ρ.1 r0 53).bind fun j30 =>
      if ρ.2.1 j30 = 0 then
      if ¬ (x4 < 0 ∨ ρ.2.2.1 j30 ≤ x4.toNatClampNeg) then
      if ρ.2.1 j29 = 0 then
      if ¬ (((x1 * (26 : Int32)) + x3) < 0 ∨ ρ.2.2.1 j29 ≤ ((x1 * (26 : Int32)) + x3).toNatClampNeg) then
      ao_let (ao_u M28 j29 ((x1 * (26 : Int32)) + x3).toNatClampNeg (M28 j30 x4.toNatClampNeg)) fun M35 =>
      ao_let (x3 + (1 : Int32)) fun v36 =>
      fX12_takeBack n 2 r0 x1 x2 v36 0 M35 ρ
      else none
      else none
      else none
      else none
      else none
      else none
      else none
    else none
def gX12_takeBack (n : Nat) (r0 : Nat) (x1 : Int32) (x2 : Int32) (M : ao_M) (ρ : ao_H) : Option (ao_M) := fX12_takeBack n 0 r0 x1 x2 0 0 M ρ
set_option maxRecDepth 100000 in
set_option maxHeartbeats 4000000 in
theorem wX12_takeBack {Γ : ao_C} {ρ : ao_H} (d : Nat) (hd : 1 ≤ d) : ∀ n : Nat, (∀ (r0 : Nat) (x1 : Int32) (x2 : Int32) (M : ao_M) (y : ao_M), fX12_takeBack n 0 r0 x1 x2 0 0 M ρ = some y → ao_W Γ uX12_takeBack (ao_rm d 0 0) (ao_Q Γ (ao_PV ρ y) 0 0) 0 0 0 [some (.ref (Γ.2.2.2 + r0)), some (.int x1), some (.int x2), none, none] [] (M, ρ)) ∧ (∀ (r0 : Nat) (x1 : Int32) (x2 : Int32) (x3 : Int32) (M : ao_M) (y : ao_M), fX12_takeBack n 2 r0 x1 x2 x3 0 M ρ = some y → ao_W Γ uX12_takeBack (ao_rm d 0 0) (ao_Q Γ (ao_PV ρ y) 0 0) 0 0 2 [some (.ref (Γ.2.2.2 + r0)), some (.int x1), some (.int x2), some (.int x3), none] [] (M, ρ)) ∧ (∀ (r0 : Nat) (x1 : Int32) (x2 : Int32) (x3 : Int32) (x4 : Int32) (M : ao_M) (y : ao_M), fX12_takeBack n 47 r0 x1 x2 x3 x4 M ρ = some y → ao_W Γ uX12_takeBack (ao_rm d 0 0) (ao_Q Γ (ao_PV ρ y) 0 0) 0 0 47 [some (.ref (Γ.2.2.2 + r0)), some (.int x1), some (.int x2), some (.int x3), some (.int x4)] [] (M, ρ)) := by
  intro n
  induction n with
  | zero => exact ⟨fun _ _ _ _ _ h => ao_no h, fun _ _ _ _ _ _ h => ao_no h, fun _ _ _ _ _ _ _ h => ao_no h⟩
  | succ n ih =>
    refine ⟨?_, ?_, ?_⟩
    · intro r0 x1 x2 M y h
      replace h := ao_ifT h rfl
      refine ao_iconst (v := 0) dX12_takeBack_0 (by decide) ?_
      refine ao_istore_n 3 (lo' := [some (.ref (Γ.2.2.2 + r0)), some (.int x1), some (.int x2), some (.int (0 : Int32)), none]) dX12_takeBack_1 rfl (Nat.le_of_ble_eq_true rfl) rfl ?_
      exact ih.2.1 r0 x1 x2 (0 : Int32) M _ h
    · intro r0 x1 x2 x3 M y h
      replace h := ao_ifF h (by decide)
      replace h := ao_ifT h rfl
      refine ao_iload_n 3 dX12_takeBack_2 rfl rfl ?_
      refine ao_bipush (v := 26) dX12_takeBack_3 (by decide) ?_
      refine ao_icmp_ge 79 dX12_takeBack_5 (by decide) (fun c1 => ?_) (fun c1 => ?_)
      · replace h := ao_ifT h c1
        refine ao_aload_n 0 dX12_takeBack_79 rfl rfl ?_
        obtain ⟨hk2, h⟩ := ao_some h
        obtain ⟨j3, hj3, h⟩ := ao_bind h
        refine an_getR r0 12 62 (q := (RX12, TX12, 83)) dX12_takeBack_80 rfl hk2 (Nat.le_of_ble_eq_true rfl) rfl lf_X12_287 hj3 ?_
        refine ao_aload_n 0 dX12_takeBack_83 rfl rfl ?_
        refine ao_iload_n 1 dX12_takeBack_84 rfl rfl ?_
        refine ao_iload_n 2 dX12_takeBack_85 rfl rfl ?_
        obtain ⟨p4, hp4, h⟩ := ao_bind h
        refine an_callVi r0 12 (q := (RX12, TX12, 83)) [.int x1, .int x2] (aX12_level (d - 1) (by omega) r0 x1 x2 M ρ hp4) dX12_takeBack_86 lc_X12_360 li_X12_level ls_X12_level rfl hk2 rfl rfl (Nat.le_of_ble_eq_true rfl) (ao_hR (by omega) (by decide)) ?_
        refine ao_iconst (v := 0) dX12_takeBack_89 (by decide) ?_
        obtain ⟨hk5, h⟩ := ao_some h
        obtain ⟨hb6, h⟩ := ao_some h
        refine an_iastore j3 dX12_takeBack_90 hk5 hb6 (fun M7 hM7 => ?_)
        replace h := ao_letD h hM7
        cases h
        exact ao_return dX12_takeBack_91 rfl ⟨rfl, rfl⟩
      · replace h := ao_ifF h c1
        refine ao_aload_n 0 dX12_takeBack_8 rfl rfl ?_
        refine ao_iload_n 1 dX12_takeBack_9 rfl rfl ?_
        refine ao_iload_n 2 dX12_takeBack_10 rfl rfl ?_
        refine ao_iload_n 3 dX12_takeBack_11 rfl rfl ?_
        obtain ⟨hk8, h⟩ := ao_some h
        obtain ⟨p9, hp9, h⟩ := ao_bind h
        refine an_callVi r0 12 (q := (RX12, TX12, 83)) [.int x1, .int x2, .int x3] (aX12_cell (d - 1) (by omega) r0 x1 x2 x3 M ρ hp9) dX12_takeBack_12 lc_X12_357 li_X12_cell ls_X12_cell rfl hk8 rfl rfl (Nat.le_of_ble_eq_true rfl) (ao_hR (by omega) (by decide)) ?_
        refine an_topi (fun v10 hv10 => ?_)
        replace h := ao_letD h hv10
        refine ao_istore 4 (lo' := [some (.ref (Γ.2.2.2 + r0)), some (.int x1), some (.int x2), some (.int x3), some (.int v10)]) dX12_takeBack_15 (Nat.le_of_ble_eq_true rfl) rfl ?_
        refine ao_aload_n 0 dX12_takeBack_17 rfl rfl ?_
        obtain ⟨j11, hj11, h⟩ := ao_bind h
        refine an_getR r0 12 56 (q := (RX12, TX12, 83)) dX12_takeBack_18 rfl hk8 (Nat.le_of_ble_eq_true rfl) rfl lf_X12_269 hj11 ?_
        refine ao_iload 4 dX12_takeBack_21 rfl ?_
        obtain ⟨hk12, h⟩ := ao_some h
        obtain ⟨hb13, h⟩ := ao_some h
        refine an_zaload j11 dX12_takeBack_23 hk12 hb13 ?_
        refine ao_if_eq 47 dX12_takeBack_24 (by decide) (fun c14 => ?_) (fun c14 => ?_)
        · replace h := ao_ifT h c14
          exact ih.2.2 r0 x1 x2 x3 v10 p9.2 _ h
        · replace h := ao_ifF h c14
          refine ao_aload_n 0 dX12_takeBack_27 rfl rfl ?_
          obtain ⟨p15, hp15, h⟩ := ao_bind h
          refine an_callVi r0 12 (q := (RX12, TX12, 83)) [] (aX12_isEager (d - 1) (by omega) _ r0 p9.2 ρ hp15) dX12_takeBack_28 lc_X12_369 li_X12_isEager ls_X12_isEager rfl hk8 rfl rfl (Nat.le_of_ble_eq_true rfl) (ao_hR (by omega) (by decide)) ?_
          refine ao_if_eq 47 dX12_takeBack_31 (by decide) (fun c16 => ?_) (fun c16 => ?_)
          · replace h := ao_ifT h c16
            exact ih.2.2 r0 x1 x2 x3 v10 p15.2 _ h
          · replace h := ao_ifF h c16
            refine ao_aload_n 0 dX12_takeBack_34 rfl rfl ?_
            obtain ⟨j17, hj17, h⟩ := ao_bind h
            refine an_getR r0 12 17 (q := (RX12, TX12, 83)) dX12_takeBack_35 rfl hk8 (Nat.le_of_ble_eq_true rfl) rfl lf_X12_151 hj17 ?_
            refine ao_iload_n 3 dX12_takeBack_38 rfl rfl ?_
            refine ao_aload_n 0 dX12_takeBack_39 rfl rfl ?_
            obtain ⟨j18, hj18, h⟩ := ao_bind h
            refine an_getR r0 12 60 (q := (RX12, TX12, 83)) dX12_takeBack_40 rfl hk8 (Nat.le_of_ble_eq_true rfl) rfl lf_X12_281 hj18 ?_
            refine ao_iload 4 dX12_takeBack_43 rfl ?_
            obtain ⟨hk19, h⟩ := ao_some h
            obtain ⟨hb20, h⟩ := ao_some h
            refine an_iaload j18 dX12_takeBack_45 hk19 hb20 ?_
            obtain ⟨hk21, h⟩ := ao_some h
            obtain ⟨hb22, h⟩ := ao_some h
            refine an_iastore j17 dX12_takeBack_46 hk21 hb22 (fun M23 hM23 => ?_)
            replace h := ao_letD h hM23
            exact ih.2.2 r0 x1 x2 x3 v10 M23 _ h
    · intro r0 x1 x2 x3 x4 M y h
      replace h := ao_ifF h (by decide)
      replace h := ao_ifF h (by decide)
      replace h := ao_ifT h rfl
      refine ao_aload_n 0 dX12_takeBack_47 rfl rfl ?_
      obtain ⟨hk24, h⟩ := ao_some h
      obtain ⟨j25, hj25, h⟩ := ao_bind h
      refine an_getR r0 12 56 (q := (RX12, TX12, 83)) dX12_takeBack_48 rfl hk24 (Nat.le_of_ble_eq_true rfl) rfl lf_X12_269 hj25 ?_
      refine ao_iload 4 dX12_takeBack_51 rfl ?_
      refine ao_iconst (v := 0) dX12_takeBack_53 (by decide) ?_
      obtain ⟨hk26, h⟩ := ao_some h
      obtain ⟨hb27, h⟩ := ao_some h
      refine an_zastore j25 dX12_takeBack_54 hk26 hb27 rfl (fun M28 hM28 => ?_)
      replace h := ao_letD h hM28
      refine ao_aload_n 0 dX12_takeBack_55 rfl rfl ?_
      obtain ⟨j29, hj29, h⟩ := ao_bind h
      refine an_getR r0 12 31 (q := (RX12, TX12, 83)) dX12_takeBack_56 rfl hk24 (Nat.le_of_ble_eq_true rfl) rfl lf_X12_193 hj29 ?_
      refine ao_iload_n 1 dX12_takeBack_59 rfl rfl ?_
      refine ao_bipush (v := 26) dX12_takeBack_60 (by decide) ?_
      refine ao_imul dX12_takeBack_62 ?_
      refine ao_iload_n 3 dX12_takeBack_63 rfl rfl ?_
      refine ao_iadd dX12_takeBack_64 ?_
      refine ao_aload_n 0 dX12_takeBack_65 rfl rfl ?_
      obtain ⟨j30, hj30, h⟩ := ao_bind h
      refine an_getR r0 12 53 (q := (RX12, TX12, 83)) dX12_takeBack_66 rfl hk24 (Nat.le_of_ble_eq_true rfl) rfl lf_X12_259 hj30 ?_
      refine ao_iload 4 dX12_takeBack_69 rfl ?_
      obtain ⟨hk31, h⟩ := ao_some h
      obtain ⟨hb32, h⟩ := ao_some h
      refine an_iaload j30 dX12_takeBack_71 hk31 hb32 ?_
      obtain ⟨hk33, h⟩ := ao_some h
      obtain ⟨hb34, h⟩ := ao_some h
      refine an_iastore j29 dX12_takeBack_72 hk33 hb34 (fun M35 hM35 => ?_)
      replace h := ao_letD h hM35
      obtain ⟨v36, hv36⟩ : ∃ z : Int32, z = x3 + (1 : Int32) := ⟨_, rfl⟩
      replace h := ao_letD h hv36
      refine ao_iinc 3 (v := v36) (lo' := [some (.ref (Γ.2.2.2 + r0)), some (.int x1), some (.int x2), some (.int v36), some (.int x4)]) dX12_takeBack_73 rfl (by rw [hv36]; rfl) (Nat.le_of_ble_eq_true rfl) rfl ?_
      refine ao_goto 2 dX12_takeBack_76 (by decide) ?_
      refine ao_loForget (lo' := [some (.ref (Γ.2.2.2 + r0)), some (.int x1), some (.int x2), some (.int v36), none]) (ao_fgS (ao_fgS (ao_fgS (ao_fgS (ao_fgN ao_fgZ))))) ?_
      exact ih.2.1 r0 x1 x2 v36 M35 _ h
set_option maxRecDepth 100000 in
set_option maxHeartbeats 4000000 in
theorem aX12_takeBack {Γ : ao_C} (d : Nat) (hd : 1 ≤ d) (n : Nat) (r0 : Nat) (x1 : Int32) (x2 : Int32) (M : ao_M) (ρ : ao_H) {y : ao_M} (h : gX12_takeBack n r0 x1 x2 M ρ = some y) : ao_A Γ uX12_takeBack d 0 0 [.ref (Γ.2.2.2 + r0), .int x1, .int x2] (M, ρ) (ao_PV ρ y) := by
  refine ao_of (by decide) (ao_cat1 (Nat.le_of_ble_eq_true rfl)) (Nat.le_of_ble_eq_true rfl) ?_
  show ao_W Γ uX12_takeBack (ao_rm d 0 0) (ao_Q Γ (ao_PV ρ y) 0 0) 0 0 0 [some (.ref (Γ.2.2.2 + r0)), some (.int x1), some (.int x2), none, none] [] (M, ρ)
  exact (wX12_takeBack d hd n).1 r0 x1 x2 M y h

abbrev uX12_takeBackTo : ao_Mi := (yX12_takeBackTo, cX12_takeBackTo, 5, none, [])
def fX12_takeBackTo : Nat → Nat → Nat → Int32 → Int32 → Int32 → Int32 →  ao_M → ao_H → Option (ao_M)
  | 0, _, _, _, _, _, _, _, _ => none
  | n + 1, pc, r0, x1, x2, x3, x4, M, ρ =>
    if pc = 0 then
      if ρ.2.1 r0 = 22 then
      (ρ.1 r0 34).bind fun j2 =>
      if ρ.2.1 j2 = 0 then
      if ¬ (x1 < 0 ∨ ρ.2.2.1 j2 ≤ x1.toNatClampNeg) then
      ao_let ((M j2 x1.toNatClampNeg) - (1 : Int32)) fun v5 =>
      fX12_takeBackTo n 10 r0 x1 x2 x3 v5 M ρ
      else none
      else none
      else none
    else if pc = 10 then
      if x4 < x2 then
        if ρ.2.1 r0 = 22 then
        (ρ.1 r0 33).bind fun j8 =>
        if ρ.2.1 j8 = 0 then
        if ¬ (x1 < 0 ∨ ρ.2.2.1 j8 ≤ x1.toNatClampNeg) then
        ao_let (ao_u M j8 x1.toNatClampNeg (0 : Int32)) fun M11 =>
        some M11
        else none
        else none
        else none
      else
        if ρ.2.1 r0 = 22 then
        (gX12_takeBack n r0 x1 x4 M ρ).bind fun p13 =>
        if x3 = 0 then
          (gX12_dropReads n r0 x1 x4 p13 ρ).bind fun p15 =>
          fX12_takeBackTo n 44 r0 x1 x2 x3 x4 p15 ρ
        else
          (gX12_giveReads n r0 x1 x4 p13 ρ).bind fun p16 =>
          fX12_takeBackTo n 44 r0 x1 x2 x3 x4 p16 ρ
        else none
    else if pc = 44 then
      ao_let (x4 + (-1 : Int32)) fun v17 =>
      fX12_takeBackTo n 10 r0 x1 x2 x3 v17 M ρ
    else none
def gX12_takeBackTo (n : Nat) (r0 : Nat) (x1 : Int32) (x2 : Int32) (x3 : Int32) (M : ao_M) (ρ : ao_H) : Option (ao_M) := fX12_takeBackTo n 0 r0 x1 x2 x3 0 M ρ
set_option maxRecDepth 100000 in
set_option maxHeartbeats 4000000 in
theorem wX12_takeBackTo {Γ : ao_C} {ρ : ao_H} (d : Nat) (hd : 2 ≤ d) : ∀ n : Nat, (∀ (r0 : Nat) (x1 : Int32) (x2 : Int32) (x3 : Int32) (M : ao_M) (y : ao_M), fX12_takeBackTo n 0 r0 x1 x2 x3 0 M ρ = some y → ao_W Γ uX12_takeBackTo (ao_rm d 0 0) (ao_Q Γ (ao_PV ρ y) 0 0) 0 0 0 [some (.ref (Γ.2.2.2 + r0)), some (.int x1), some (.int x2), some (.int x3), none] [] (M, ρ)) ∧ (∀ (r0 : Nat) (x1 : Int32) (x2 : Int32) (x3 : Int32) (x4 : Int32) (M : ao_M) (y : ao_M), fX12_takeBackTo n 10 r0 x1 x2 x3 x4 M ρ = some y → ao_W Γ uX12_takeBackTo (ao_rm d 0 0) (ao_Q Γ (ao_PV ρ y) 0 0) 0 0 10 [some (.ref (Γ.2.2.2 + r0)), some (.int x1), some (.int x2), some (.int x3), some (.int x4)] [] (M, ρ)) ∧ (∀ (r0 : Nat) (x1 : Int32) (x2 : Int32) (x3 : Int32) (x4 : Int32) (M : ao_M) (y : ao_M), fX12_takeBackTo n 44 r0 x1 x2 x3 x4 M ρ = some y → ao_W Γ uX12_takeBackTo (ao_rm d 0 0) (ao_Q Γ (ao_PV ρ y) 0 0) 0 0 44 [some (.ref (Γ.2.2.2 + r0)), some (.int x1), some (.int x2), some (.int x3), some (.int x4)] [] (M, ρ)) := by
  intro n
  induction n with
  | zero => exact ⟨fun _ _ _ _ _ _ h => ao_no h, fun _ _ _ _ _ _ _ h => ao_no h, fun _ _ _ _ _ _ _ h => ao_no h⟩
  | succ n ih =>
    refine ⟨?_, ?_, ?_⟩
    · intro r0 x1 x2 x3 M y h
      replace h := ao_ifT h rfl
      refine ao_aload_n 0 dX12_takeBackTo_0 rfl rfl ?_
      obtain ⟨hk1, h⟩ := ao_some h
      obtain ⟨j2, hj2, h⟩ := ao_bind h
      refine an_getR r0 12 34 (q := (RX12, TX12, 83)) dX12_takeBackTo_1 rfl hk1 (Nat.le_of_ble_eq_true rfl) rfl lf_X12_202 hj2 ?_
      refine ao_iload_n 1 dX12_takeBackTo_4 rfl rfl ?_
      obtain ⟨hk3, h⟩ := ao_some h
      obtain ⟨hb4, h⟩ := ao_some h
      refine an_iaload j2 dX12_takeBackTo_5 hk3 hb4 ?_
      refine ao_iconst (v := 1) dX12_takeBackTo_6 (by decide) ?_
      refine ao_isub dX12_takeBackTo_7 ?_
      refine an_topi (fun v5 hv5 => ?_)
      replace h := ao_letD h hv5
      refine ao_istore 4 (lo' := [some (.ref (Γ.2.2.2 + r0)), some (.int x1), some (.int x2), some (.int x3), some (.int v5)]) dX12_takeBackTo_8 (Nat.le_of_ble_eq_true rfl) rfl ?_
      exact ih.2.1 r0 x1 x2 x3 v5 M _ h
    · intro r0 x1 x2 x3 x4 M y h
      replace h := ao_ifF h (by decide)
      replace h := ao_ifT h rfl
      refine ao_iload 4 dX12_takeBackTo_10 rfl ?_
      refine ao_iload_n 2 dX12_takeBackTo_12 rfl rfl ?_
      refine ao_icmp_lt 50 dX12_takeBackTo_13 (by decide) (fun c6 => ?_) (fun c6 => ?_)
      · replace h := ao_ifT h c6
        refine ao_aload_n 0 dX12_takeBackTo_50 rfl rfl ?_
        obtain ⟨hk7, h⟩ := ao_some h
        obtain ⟨j8, hj8, h⟩ := ao_bind h
        refine an_getR r0 12 33 (q := (RX12, TX12, 83)) dX12_takeBackTo_51 rfl hk7 (Nat.le_of_ble_eq_true rfl) rfl lf_X12_199 hj8 ?_
        refine ao_iload_n 1 dX12_takeBackTo_54 rfl rfl ?_
        refine ao_iconst (v := 0) dX12_takeBackTo_55 (by decide) ?_
        obtain ⟨hk9, h⟩ := ao_some h
        obtain ⟨hb10, h⟩ := ao_some h
        refine an_iastore j8 dX12_takeBackTo_56 hk9 hb10 (fun M11 hM11 => ?_)
        replace h := ao_letD h hM11
        cases h
        exact ao_return dX12_takeBackTo_57 rfl ⟨rfl, rfl⟩
      · replace h := ao_ifF h c6
        refine ao_aload_n 0 dX12_takeBackTo_16 rfl rfl ?_
        refine ao_iload_n 1 dX12_takeBackTo_17 rfl rfl ?_
        refine ao_iload 4 dX12_takeBackTo_18 rfl ?_
        obtain ⟨hk12, h⟩ := ao_some h
        obtain ⟨p13, hp13, h⟩ := ao_bind h
        refine an_callVv r0 12 (q := (RX12, TX12, 83)) [.int x1, .int x4] (aX12_takeBack (d - 1) (by omega) _ r0 x1 x4 M ρ hp13) dX12_takeBackTo_20 lc_X12_373 li_X12_takeBack ls_X12_takeBack rfl hk12 rfl rfl (Nat.le_of_ble_eq_true rfl) (ao_hR (by omega) (by decide)) ?_
        refine ao_iload_n 3 dX12_takeBackTo_23 rfl rfl ?_
        refine ao_if_eq 37 dX12_takeBackTo_24 (by decide) (fun c14 => ?_) (fun c14 => ?_)
        · replace h := ao_ifT h c14
          refine ao_aload_n 0 dX12_takeBackTo_37 rfl rfl ?_
          refine ao_iload_n 1 dX12_takeBackTo_38 rfl rfl ?_
          refine ao_iload 4 dX12_takeBackTo_39 rfl ?_
          obtain ⟨p15, hp15, h⟩ := ao_bind h
          refine an_callVv r0 12 (q := (RX12, TX12, 83)) [.int x1, .int x4] (aX12_dropReads (d - 1) (by omega) _ r0 x1 x4 p13 ρ hp15) dX12_takeBackTo_41 lc_X12_379 li_X12_dropReads ls_X12_dropReads rfl hk12 rfl rfl (Nat.le_of_ble_eq_true rfl) (ao_hR (by omega) (by decide)) ?_
          exact ih.2.2 r0 x1 x2 x3 x4 p15 _ h
        · replace h := ao_ifF h c14
          refine ao_aload_n 0 dX12_takeBackTo_27 rfl rfl ?_
          refine ao_iload_n 1 dX12_takeBackTo_28 rfl rfl ?_
          refine ao_iload 4 dX12_takeBackTo_29 rfl ?_
          obtain ⟨p16, hp16, h⟩ := ao_bind h
          refine an_callVv r0 12 (q := (RX12, TX12, 83)) [.int x1, .int x4] (aX12_giveReads (d - 1) (by omega) _ r0 x1 x4 p13 ρ hp16) dX12_takeBackTo_31 lc_X12_376 li_X12_giveReads ls_X12_giveReads rfl hk12 rfl rfl (Nat.le_of_ble_eq_true rfl) (ao_hR (by omega) (by decide)) ?_
          refine ao_goto 44 dX12_takeBackTo_34 (by decide) ?_
          exact ih.2.2 r0 x1 x2 x3 x4 p16 _ h
    · intro r0 x1 x2 x3 x4 M y h
      replace h := ao_ifF h (by decide)
      replace h := ao_ifF h (by decide)
      replace h := ao_ifT h rfl
      obtain ⟨v17, hv17⟩ : ∃ z : Int32, z = x4 + (-1 : Int32) := ⟨_, rfl⟩
      replace h := ao_letD h hv17
      refine ao_iinc 4 (v := v17) (lo' := [some (.ref (Γ.2.2.2 + r0)), some (.int x1), some (.int x2), some (.int x3), some (.int v17)]) dX12_takeBackTo_44 rfl (by rw [hv17]; rfl) (Nat.le_of_ble_eq_true rfl) rfl ?_
      refine ao_goto 10 dX12_takeBackTo_47 (by decide) ?_
      exact ih.2.1 r0 x1 x2 x3 v17 M _ h
set_option maxRecDepth 100000 in
set_option maxHeartbeats 4000000 in
theorem aX12_takeBackTo {Γ : ao_C} (d : Nat) (hd : 2 ≤ d) (n : Nat) (r0 : Nat) (x1 : Int32) (x2 : Int32) (x3 : Int32) (M : ao_M) (ρ : ao_H) {y : ao_M} (h : gX12_takeBackTo n r0 x1 x2 x3 M ρ = some y) : ao_A Γ uX12_takeBackTo d 0 0 [.ref (Γ.2.2.2 + r0), .int x1, .int x2, .int x3] (M, ρ) (ao_PV ρ y) := by
  refine ao_of (by decide) (ao_cat1 (Nat.le_of_ble_eq_true rfl)) (Nat.le_of_ble_eq_true rfl) ?_
  show ao_W Γ uX12_takeBackTo (ao_rm d 0 0) (ao_Q Γ (ao_PV ρ y) 0 0) 0 0 0 [some (.ref (Γ.2.2.2 + r0)), some (.int x1), some (.int x2), some (.int x3), none] [] (M, ρ)
  exact (wX12_takeBackTo d hd n).1 r0 x1 x2 x3 M y h

abbrev uX12_isWrong : ao_Mi := (yX12_isWrong, cX12_isWrong, 5, (some .boolean), [])
def fX12_isWrong : Nat → Nat → Nat → Int32 → Int32 → Int32 → Int32 →  ao_M → ao_H → Option (Int32 × ao_M)
  | 0, _, _, _, _, _, _, _, _ => none
  | n + 1, pc, r0, x1, x2, x3, x4, M, ρ =>
    if pc = 0 then
      if ρ.2.1 r0 = 22 then
      (gX12_cell r0 x1 x2 x3 M ρ).bind fun p2 =>
      ao_let p2.1 fun v3 =>
      (ρ.1 r0 55).bind fun j4 =>
      if ρ.2.1 j4 = 2 then
      if ¬ (v3 < 0 ∨ ρ.2.2.1 j4 ≤ v3.toNatClampNeg) then
      if (p2.2 j4 v3.toNatClampNeg) = 0 then
        some ((0 : Int32), p2.2)
      else
        ao_let (p2.2 r0 27) fun v8 =>
        if v8 = (0 : Int32) then
          fX12_isWrong n 56 r0 x1 x2 x3 v3 p2.2 ρ
        else
          if v8 = (1 : Int32) then
            (ρ.1 r0 17).bind fun j11 =>
            if ρ.2.1 j11 = 0 then
            if ¬ (x3 < 0 ∨ ρ.2.2.1 j11 ≤ x3.toNatClampNeg) then
            (ρ.1 r0 57).bind fun j14 =>
            if ρ.2.1 j14 = 0 then
            if ¬ (v3 < 0 ∨ ρ.2.2.1 j14 ≤ v3.toNatClampNeg) then
            if (p2.2 j11 x3.toNatClampNeg) = (p2.2 j14 v3.toNatClampNeg) then
              some ((0 : Int32), p2.2)
            else
              some ((1 : Int32), p2.2)
            else none
            else none
            else none
            else none
          else
            if v8 = (2 : Int32) then
              fX12_isWrong n 56 r0 x1 x2 x3 v3 p2.2 ρ
            else
              if v8 = (3 : Int32) then
                (ρ.1 r0 19).bind fun j20 =>
                if ρ.2.1 j20 = 0 then
                if ¬ (x3 < 0 ∨ ρ.2.2.1 j20 ≤ x3.toNatClampNeg) then
                if (p2.2 j20 x3.toNatClampNeg) < 0 then
                  fX12_isWrong n 118 r0 x1 x2 x3 v3 p2.2 ρ
                else
                  if (p2.2 j20 x3.toNatClampNeg) = x1 then
                    fX12_isWrong n 118 r0 x1 x2 x3 v3 p2.2 ρ
                  else
                    fX12_isWrong n 134 r0 x1 x2 x3 v3 p2.2 ρ
                else none
                else none
              else
                some ((0 : Int32), p2.2)
      else none
      else none
      else none
    else if pc = 56 then
      if ρ.2.1 r0 = 22 then
      (ρ.1 r0 18).bind fun j26 =>
      if ρ.2.1 j26 = 0 then
      if ¬ (x3 < 0 ∨ ρ.2.2.1 j26 ≤ x3.toNatClampNeg) then
      (ρ.1 r0 38).bind fun j29 =>
      if ρ.2.1 j29 = 0 then
      if ¬ (x1 < 0 ∨ ρ.2.2.1 j29 ≤ x1.toNatClampNeg) then
      if (M j26 x3.toNatClampNeg) ≤ (M j29 x1.toNatClampNeg) then
        some ((0 : Int32), M)
      else
        some ((1 : Int32), M)
      else none
      else none
      else none
      else none
      else none
    else if pc = 118 then
      if ρ.2.1 r0 = 22 then
      (ρ.1 r0 18).bind fun j34 =>
      if ρ.2.1 j34 = 0 then
      if ¬ (x3 < 0 ∨ ρ.2.2.1 j34 ≤ x3.toNatClampNeg) then
      (ρ.1 r0 58).bind fun j37 =>
      if ρ.2.1 j37 = 0 then
      if ¬ (x4 < 0 ∨ ρ.2.2.1 j37 ≤ x4.toNatClampNeg) then
      if (M j34 x3.toNatClampNeg) = (M j37 x4.toNatClampNeg) then
        some ((0 : Int32), M)
      else
        fX12_isWrong n 134 r0 x1 x2 x3 x4 M ρ
      else none
      else none
      else none
      else none
      else none
    else if pc = 134 then
      some ((1 : Int32), M)
    else none
def gX12_isWrong (n : Nat) (r0 : Nat) (x1 : Int32) (x2 : Int32) (x3 : Int32) (M : ao_M) (ρ : ao_H) : Option (Int32 × ao_M) := fX12_isWrong n 0 r0 x1 x2 x3 0 M ρ
set_option maxRecDepth 100000 in
set_option maxHeartbeats 4000000 in
theorem wX12_isWrong {Γ : ao_C} {ρ : ao_H} (d : Nat) (hd : 1 ≤ d) : ∀ n : Nat, (∀ (r0 : Nat) (x1 : Int32) (x2 : Int32) (x3 : Int32) (M : ao_M) (y : Int32 × ao_M), fX12_isWrong n 0 r0 x1 x2 x3 0 M ρ = some y → ao_W Γ uX12_isWrong (ao_rm d 0 0) (ao_Q Γ (ao_PI ρ y) 0 0) 0 0 0 [some (.ref (Γ.2.2.2 + r0)), some (.int x1), some (.int x2), some (.int x3), none] [] (M, ρ)) ∧ (∀ (r0 : Nat) (x1 : Int32) (x2 : Int32) (x3 : Int32) (x4 : Int32) (M : ao_M) (y : Int32 × ao_M), fX12_isWrong n 56 r0 x1 x2 x3 x4 M ρ = some y → ao_W Γ uX12_isWrong (ao_rm d 0 0) (ao_Q Γ (ao_PI ρ y) 0 0) 0 0 56 [some (.ref (Γ.2.2.2 + r0)), some (.int x1), some (.int x2), some (.int x3), some (.int x4)] [] (M, ρ)) ∧ (∀ (r0 : Nat) (x1 : Int32) (x2 : Int32) (x3 : Int32) (x4 : Int32) (M : ao_M) (y : Int32 × ao_M), fX12_isWrong n 118 r0 x1 x2 x3 x4 M ρ = some y → ao_W Γ uX12_isWrong (ao_rm d 0 0) (ao_Q Γ (ao_PI ρ y) 0 0) 0 0 118 [some (.ref (Γ.2.2.2 + r0)), some (.int x1), some (.int x2), some (.int x3), some (.int x4)] [] (M, ρ)) ∧ (∀ (r0 : Nat) (x1 : Int32) (x2 : Int32) (x3 : Int32) (x4 : Int32) (M : ao_M) (y : Int32 × ao_M), fX12_isWrong n 134 r0 x1 x2 x3 x4 M ρ = some y → ao_W Γ uX12_isWrong (ao_rm d 0 0) (ao_Q Γ (ao_PI ρ y) 0 0) 0 0 134 [some (.ref (Γ.2.2.2 + r0)), some (.int x1), some (.int x2), some (.int x3), some (.int x4)] [] (M, ρ)) := by
  intro n
  induction n with
  | zero => exact ⟨fun _ _ _ _ _ _ h => ao_no h, fun _ _ _ _ _ _ _ h => ao_no h, fun _ _ _ _ _ _ _ h => ao_no h, fun _ _ _ _ _ _ _ h => ao_no h⟩
  | succ n ih =>
    refine ⟨?_, ?_, ?_, ?_⟩
    · intro r0 x1 x2 x3 M y h
      replace h := ao_ifT h rfl
      refine ao_aload_n 0 dX12_isWrong_0 rfl rfl ?_
      refine ao_iload_n 1 dX12_isWrong_1 rfl rfl ?_
      refine ao_iload_n 2 dX12_isWrong_2 rfl rfl ?_
      refine ao_iload_n 3 dX12_isWrong_3 rfl rfl ?_
      obtain ⟨hk1, h⟩ := ao_some h
      obtain ⟨p2, hp2, h⟩ := ao_bind h
      refine an_callVi r0 12 (q := (RX12, TX12, 83)) [.int x1, .int x2, .int x3] (aX12_cell (d - 1) (by omega) r0 x1 x2 x3 M ρ hp2) dX12_isWrong_4 lc_X12_357 li_X12_cell ls_X12_cell rfl hk1 rfl rfl (Nat.le_of_ble_eq_true rfl) (ao_hR (by omega) (by decide)) ?_
      refine an_topi (fun v3 hv3 => ?_)
      replace h := ao_letD h hv3
      refine ao_istore 4 (lo' := [some (.ref (Γ.2.2.2 + r0)), some (.int x1), some (.int x2), some (.int x3), some (.int v3)]) dX12_isWrong_7 (Nat.le_of_ble_eq_true rfl) rfl ?_
      refine ao_aload_n 0 dX12_isWrong_9 rfl rfl ?_
      obtain ⟨j4, hj4, h⟩ := ao_bind h
      refine an_getR r0 12 55 (q := (RX12, TX12, 83)) dX12_isWrong_10 rfl hk1 (Nat.le_of_ble_eq_true rfl) rfl lf_X12_266 hj4 ?_
      refine ao_iload 4 dX12_isWrong_13 rfl ?_
      obtain ⟨hk5, h⟩ := ao_some h
      obtain ⟨hb6, h⟩ := ao_some h
      refine an_zaload j4 dX12_isWrong_15 hk5 hb6 ?_
      refine ao_if_ne 21 dX12_isWrong_16 (by decide) (fun c7 => ?_) (fun c7 => ?_)
      · replace h := ao_ifF h c7
        refine ao_aload_n 0 dX12_isWrong_21 rfl rfl ?_
        refine an_getI r0 12 27 (q := (RX12, TX12, 83)) dX12_isWrong_22 rfl hk1 (Nat.le_of_ble_eq_true rfl) rfl lf_X12_332 ?_
        refine an_topi (fun v8 hv8 => ?_)
        replace h := ao_letD h hv8
        by_cases c9 : v8 = (0 : Int32)
        · replace h := ao_ifT h c9
          refine ao_tableIn 56 dX12_isWrong_25 (by rw [c9]; decide) (by rw [c9]; decide) (by rw [c9]; rfl) (by decide) ?_
          exact ih.2.1 r0 x1 x2 x3 v3 p2.2 _ h
        · replace h := ao_ifF h c9
          by_cases c10 : v8 = (1 : Int32)
          · replace h := ao_ifT h c10
            refine ao_tableIn 77 dX12_isWrong_25 (by rw [c10]; decide) (by rw [c10]; decide) (by rw [c10]; rfl) (by decide) ?_
            refine ao_aload_n 0 dX12_isWrong_77 rfl rfl ?_
            obtain ⟨j11, hj11, h⟩ := ao_bind h
            refine an_getR r0 12 17 (q := (RX12, TX12, 83)) dX12_isWrong_78 rfl hk1 (Nat.le_of_ble_eq_true rfl) rfl lf_X12_151 hj11 ?_
            refine ao_iload_n 3 dX12_isWrong_81 rfl rfl ?_
            obtain ⟨hk12, h⟩ := ao_some h
            obtain ⟨hb13, h⟩ := ao_some h
            refine an_iaload j11 dX12_isWrong_82 hk12 hb13 ?_
            refine ao_aload_n 0 dX12_isWrong_83 rfl rfl ?_
            obtain ⟨j14, hj14, h⟩ := ao_bind h
            refine an_getR r0 12 57 (q := (RX12, TX12, 83)) dX12_isWrong_84 rfl hk1 (Nat.le_of_ble_eq_true rfl) rfl lf_X12_272 hj14 ?_
            refine ao_iload 4 dX12_isWrong_87 rfl ?_
            obtain ⟨hk15, h⟩ := ao_some h
            obtain ⟨hb16, h⟩ := ao_some h
            refine an_iaload j14 dX12_isWrong_89 hk15 hb16 ?_
            refine ao_icmp_eq 97 dX12_isWrong_90 (by decide) (fun c17 => ?_) (fun c17 => ?_)
            · replace h := ao_ifT h c17
              refine ao_iconst (v := 0) dX12_isWrong_97 (by decide) ?_
              cases h
              exact ao_ireturn dX12_isWrong_98 rfl rfl ⟨rfl, rfl⟩
            · replace h := ao_ifF h c17
              refine ao_iconst (v := 1) dX12_isWrong_93 (by decide) ?_
              refine ao_goto 98 dX12_isWrong_94 (by decide) ?_
              cases h
              exact ao_ireturn dX12_isWrong_98 rfl rfl ⟨rfl, rfl⟩
          · replace h := ao_ifF h c10
            by_cases c18 : v8 = (2 : Int32)
            · replace h := ao_ifT h c18
              refine ao_tableIn 56 dX12_isWrong_25 (by rw [c18]; decide) (by rw [c18]; decide) (by rw [c18]; rfl) (by decide) ?_
              exact ih.2.1 r0 x1 x2 x3 v3 p2.2 _ h
            · replace h := ao_ifF h c18
              by_cases c19 : v8 = (3 : Int32)
              · replace h := ao_ifT h c19
                refine ao_tableIn 99 dX12_isWrong_25 (by rw [c19]; decide) (by rw [c19]; decide) (by rw [c19]; rfl) (by decide) ?_
                refine ao_aload_n 0 dX12_isWrong_99 rfl rfl ?_
                obtain ⟨j20, hj20, h⟩ := ao_bind h
                refine an_getR r0 12 19 (q := (RX12, TX12, 83)) dX12_isWrong_100 rfl hk1 (Nat.le_of_ble_eq_true rfl) rfl lf_X12_177 hj20 ?_
                refine ao_iload_n 3 dX12_isWrong_103 rfl rfl ?_
                obtain ⟨hk21, h⟩ := ao_some h
                obtain ⟨hb22, h⟩ := ao_some h
                refine an_iaload j20 dX12_isWrong_104 hk21 hb22 ?_
                refine ao_if_lt 118 dX12_isWrong_105 (by decide) (fun c23 => ?_) (fun c23 => ?_)
                · replace h := ao_ifT h c23
                  exact ih.2.2.1 r0 x1 x2 x3 v3 p2.2 _ h
                · replace h := ao_ifF h c23
                  refine ao_aload_n 0 dX12_isWrong_108 rfl rfl ?_
                  refine an_getR r0 12 19 (q := (RX12, TX12, 83)) dX12_isWrong_109 rfl hk1 (Nat.le_of_ble_eq_true rfl) rfl lf_X12_177 hj20 ?_
                  refine ao_iload_n 3 dX12_isWrong_112 rfl rfl ?_
                  refine an_iaload j20 dX12_isWrong_113 hk21 hb22 ?_
                  refine ao_iload_n 1 dX12_isWrong_114 rfl rfl ?_
                  refine ao_icmp_ne 134 dX12_isWrong_115 (by decide) (fun c24 => ?_) (fun c24 => ?_)
                  · replace h := ao_ifF h c24
                    exact ih.2.2.2 r0 x1 x2 x3 v3 p2.2 _ h
                  · replace h := ao_ifT h c24
                    exact ih.2.2.1 r0 x1 x2 x3 v3 p2.2 _ h
              · replace h := ao_ifF h c19
                refine ao_tableOut 140 dX12_isWrong_25 (by have nc9 := ao_ne (z := 0) c9 (by decide); have nc10 := ao_ne (z := 1) c10 (by decide); have nc18 := ao_ne (z := 2) c18 (by decide); have nc19 := ao_ne (z := 3) c19 (by decide); omega) (by decide) ?_
                refine ao_iconst (v := 0) dX12_isWrong_140 (by decide) ?_
                cases h
                exact ao_ireturn dX12_isWrong_141 rfl rfl ⟨rfl, rfl⟩
      · replace h := ao_ifT h c7
        refine ao_iconst (v := 0) dX12_isWrong_19 (by decide) ?_
        cases h
        exact ao_ireturn dX12_isWrong_20 rfl rfl ⟨rfl, rfl⟩
    · intro r0 x1 x2 x3 x4 M y h
      replace h := ao_ifF h (by decide)
      replace h := ao_ifT h rfl
      refine ao_aload_n 0 dX12_isWrong_56 rfl rfl ?_
      obtain ⟨hk25, h⟩ := ao_some h
      obtain ⟨j26, hj26, h⟩ := ao_bind h
      refine an_getR r0 12 18 (q := (RX12, TX12, 83)) dX12_isWrong_57 rfl hk25 (Nat.le_of_ble_eq_true rfl) rfl lf_X12_157 hj26 ?_
      refine ao_iload_n 3 dX12_isWrong_60 rfl rfl ?_
      obtain ⟨hk27, h⟩ := ao_some h
      obtain ⟨hb28, h⟩ := ao_some h
      refine an_iaload j26 dX12_isWrong_61 hk27 hb28 ?_
      refine ao_aload_n 0 dX12_isWrong_62 rfl rfl ?_
      obtain ⟨j29, hj29, h⟩ := ao_bind h
      refine an_getR r0 12 38 (q := (RX12, TX12, 83)) dX12_isWrong_63 rfl hk25 (Nat.le_of_ble_eq_true rfl) rfl lf_X12_214 hj29 ?_
      refine ao_iload_n 1 dX12_isWrong_66 rfl rfl ?_
      obtain ⟨hk30, h⟩ := ao_some h
      obtain ⟨hb31, h⟩ := ao_some h
      refine an_iaload j29 dX12_isWrong_67 hk30 hb31 ?_
      refine ao_icmp_le 75 dX12_isWrong_68 (by decide) (fun c32 => ?_) (fun c32 => ?_)
      · replace h := ao_ifT h c32
        refine ao_iconst (v := 0) dX12_isWrong_75 (by decide) ?_
        cases h
        exact ao_ireturn dX12_isWrong_76 rfl rfl ⟨rfl, rfl⟩
      · replace h := ao_ifF h c32
        refine ao_iconst (v := 1) dX12_isWrong_71 (by decide) ?_
        refine ao_goto 76 dX12_isWrong_72 (by decide) ?_
        cases h
        exact ao_ireturn dX12_isWrong_76 rfl rfl ⟨rfl, rfl⟩
    · intro r0 x1 x2 x3 x4 M y h
      replace h := ao_ifF h (by decide)
      replace h := ao_ifF h (by decide)
      replace h := ao_ifT h rfl
      refine ao_aload_n 0 dX12_isWrong_118 rfl rfl ?_
      obtain ⟨hk33, h⟩ := ao_some h
      obtain ⟨j34, hj34, h⟩ := ao_bind h
      refine an_getR r0 12 18 (q := (RX12, TX12, 83)) dX12_isWrong_119 rfl hk33 (Nat.le_of_ble_eq_true rfl) rfl lf_X12_157 hj34 ?_
      refine ao_iload_n 3 dX12_isWrong_122 rfl rfl ?_
      obtain ⟨hk35, h⟩ := ao_some h
      obtain ⟨hb36, h⟩ := ao_some h
      refine an_iaload j34 dX12_isWrong_123 hk35 hb36 ?_
      refine ao_aload_n 0 dX12_isWrong_124 rfl rfl ?_
      obtain ⟨j37, hj37, h⟩ := ao_bind h
      refine an_getR r0 12 58 (q := (RX12, TX12, 83)) dX12_isWrong_125 rfl hk33 (Nat.le_of_ble_eq_true rfl) rfl lf_X12_275 hj37 ?_
      refine ao_iload 4 dX12_isWrong_128 rfl ?_
      obtain ⟨hk38, h⟩ := ao_some h
      obtain ⟨hb39, h⟩ := ao_some h
      refine an_iaload j37 dX12_isWrong_130 hk38 hb39 ?_
      refine ao_icmp_eq 138 dX12_isWrong_131 (by decide) (fun c40 => ?_) (fun c40 => ?_)
      · replace h := ao_ifT h c40
        refine ao_iconst (v := 0) dX12_isWrong_138 (by decide) ?_
        cases h
        exact ao_ireturn dX12_isWrong_139 rfl rfl ⟨rfl, rfl⟩
      · replace h := ao_ifF h c40
        exact ih.2.2.2 r0 x1 x2 x3 x4 M _ h
    · intro r0 x1 x2 x3 x4 M y h
      replace h := ao_ifF h (by decide)
      replace h := ao_ifF h (by decide)
      replace h := ao_ifF h (by decide)
      replace h := ao_ifT h rfl
      refine ao_iconst (v := 1) dX12_isWrong_134 (by decide) ?_
      refine ao_goto 139 dX12_isWrong_135 (by decide) ?_
      cases h
      exact ao_ireturn dX12_isWrong_139 rfl rfl ⟨rfl, rfl⟩
set_option maxRecDepth 100000 in
set_option maxHeartbeats 4000000 in
theorem aX12_isWrong {Γ : ao_C} (d : Nat) (hd : 1 ≤ d) (n : Nat) (r0 : Nat) (x1 : Int32) (x2 : Int32) (x3 : Int32) (M : ao_M) (ρ : ao_H) {y : Int32 × ao_M} (h : gX12_isWrong n r0 x1 x2 x3 M ρ = some y) : ao_A Γ uX12_isWrong d 0 0 [.ref (Γ.2.2.2 + r0), .int x1, .int x2, .int x3] (M, ρ) (ao_PI ρ y) := by
  refine ao_of (by decide) (ao_cat1 (Nat.le_of_ble_eq_true rfl)) (Nat.le_of_ble_eq_true rfl) ?_
  show ao_W Γ uX12_isWrong (ao_rm d 0 0) (ao_Q Γ (ao_PI ρ y) 0 0) 0 0 0 [some (.ref (Γ.2.2.2 + r0)), some (.int x1), some (.int x2), some (.int x3), none] [] (M, ρ)
  exact (wX12_isWrong d hd n).1 r0 x1 x2 x3 M y h

abbrev uX12_wrongLevel : ao_Mi := (yX12_wrongLevel, cX12_wrongLevel, 4, (some .int), [])
def fX12_wrongLevel : Nat → Nat → Nat → Int32 → Int32 → Int32 →  ao_M → ao_H → Option (Int32 × ao_M)
  | 0, _, _, _, _, _, _, _ => none
  | n + 1, pc, r0, x1, x2, x3, M, ρ =>
    if pc = 0 then
      fX12_wrongLevel n 2 r0 x1 (0 : Int32) 0 M ρ
    else if pc = 2 then
      if ρ.2.1 r0 = 22 then
      (ρ.1 r0 34).bind fun j2 =>
      if ρ.2.1 j2 = 0 then
      if ¬ (x1 < 0 ∨ ρ.2.2.1 j2 ≤ x1.toNatClampNeg) then
      if (M j2 x1.toNatClampNeg) ≤ x2 then
        some ((-1 : Int32), M)
      else
        fX12_wrongLevel n 14 r0 x1 x2 (0 : Int32) M ρ
      else none
      else none
      else none
    else if pc = 14 then
      if (26 : Int32) ≤ x3 then
        ao_let (x2 + (1 : Int32)) fun v7 =>
        fX12_wrongLevel n 2 r0 x1 v7 0 M ρ
      else
        if ρ.2.1 r0 = 22 then
        (gX12_isWrong n r0 x1 x2 x3 M ρ).bind fun p9 =>
        if p9.1 = 0 then
          ao_let (x3 + (1 : Int32)) fun v11 =>
          fX12_wrongLevel n 14 r0 x1 x2 v11 p9.2 ρ
        else
          some (x2, p9.2)
        else none
    else none
def gX12_wrongLevel (n : Nat) (r0 : Nat) (x1 : Int32) (M : ao_M) (ρ : ao_H) : Option (Int32 × ao_M) := fX12_wrongLevel n 0 r0 x1 0 0 M ρ
set_option maxRecDepth 100000 in
set_option maxHeartbeats 4000000 in
theorem wX12_wrongLevel {Γ : ao_C} {ρ : ao_H} (d : Nat) (hd : 2 ≤ d) : ∀ n : Nat, (∀ (r0 : Nat) (x1 : Int32) (M : ao_M) (y : Int32 × ao_M), fX12_wrongLevel n 0 r0 x1 0 0 M ρ = some y → ao_W Γ uX12_wrongLevel (ao_rm d 0 0) (ao_Q Γ (ao_PI ρ y) 0 0) 0 0 0 [some (.ref (Γ.2.2.2 + r0)), some (.int x1), none, none] [] (M, ρ)) ∧ (∀ (r0 : Nat) (x1 : Int32) (x2 : Int32) (M : ao_M) (y : Int32 × ao_M), fX12_wrongLevel n 2 r0 x1 x2 0 M ρ = some y → ao_W Γ uX12_wrongLevel (ao_rm d 0 0) (ao_Q Γ (ao_PI ρ y) 0 0) 0 0 2 [some (.ref (Γ.2.2.2 + r0)), some (.int x1), some (.int x2), none] [] (M, ρ)) ∧ (∀ (r0 : Nat) (x1 : Int32) (x2 : Int32) (x3 : Int32) (M : ao_M) (y : Int32 × ao_M), fX12_wrongLevel n 14 r0 x1 x2 x3 M ρ = some y → ao_W Γ uX12_wrongLevel (ao_rm d 0 0) (ao_Q Γ (ao_PI ρ y) 0 0) 0 0 14 [some (.ref (Γ.2.2.2 + r0)), some (.int x1), some (.int x2), some (.int x3)] [] (M, ρ)) := by
  intro n
  induction n with
  | zero => exact ⟨fun _ _ _ _ h => ao_no h, fun _ _ _ _ _ h => ao_no h, fun _ _ _ _ _ _ h => ao_no h⟩
  | succ n ih =>
    refine ⟨?_, ?_, ?_⟩
    · intro r0 x1 M y h
      replace h := ao_ifT h rfl
      refine ao_iconst (v := 0) dX12_wrongLevel_0 (by decide) ?_
      refine ao_istore_n 2 (lo' := [some (.ref (Γ.2.2.2 + r0)), some (.int x1), some (.int (0 : Int32)), none]) dX12_wrongLevel_1 rfl (Nat.le_of_ble_eq_true rfl) rfl ?_
      exact ih.2.1 r0 x1 (0 : Int32) M _ h
    · intro r0 x1 x2 M y h
      replace h := ao_ifF h (by decide)
      replace h := ao_ifT h rfl
      refine ao_iload_n 2 dX12_wrongLevel_2 rfl rfl ?_
      refine ao_aload_n 0 dX12_wrongLevel_3 rfl rfl ?_
      obtain ⟨hk1, h⟩ := ao_some h
      obtain ⟨j2, hj2, h⟩ := ao_bind h
      refine an_getR r0 12 34 (q := (RX12, TX12, 83)) dX12_wrongLevel_4 rfl hk1 (Nat.le_of_ble_eq_true rfl) rfl lf_X12_202 hj2 ?_
      refine ao_iload_n 1 dX12_wrongLevel_7 rfl rfl ?_
      obtain ⟨hk3, h⟩ := ao_some h
      obtain ⟨hb4, h⟩ := ao_some h
      refine an_iaload j2 dX12_wrongLevel_8 hk3 hb4 ?_
      refine ao_icmp_ge 44 dX12_wrongLevel_9 (by decide) (fun c5 => ?_) (fun c5 => ?_)
      · replace h := ao_ifT h c5
        refine ao_iconst (v := (-1)) dX12_wrongLevel_44 (by decide) ?_
        cases h
        exact ao_ireturn dX12_wrongLevel_45 rfl rfl ⟨rfl, rfl⟩
      · replace h := ao_ifF h c5
        refine ao_iconst (v := 0) dX12_wrongLevel_12 (by decide) ?_
        refine ao_istore_n 3 (lo' := [some (.ref (Γ.2.2.2 + r0)), some (.int x1), some (.int x2), some (.int (0 : Int32))]) dX12_wrongLevel_13 rfl (Nat.le_of_ble_eq_true rfl) rfl ?_
        exact ih.2.2 r0 x1 x2 (0 : Int32) M _ h
    · intro r0 x1 x2 x3 M y h
      replace h := ao_ifF h (by decide)
      replace h := ao_ifF h (by decide)
      replace h := ao_ifT h rfl
      refine ao_iload_n 3 dX12_wrongLevel_14 rfl rfl ?_
      refine ao_bipush (v := 26) dX12_wrongLevel_15 (by decide) ?_
      refine ao_icmp_ge 38 dX12_wrongLevel_17 (by decide) (fun c6 => ?_) (fun c6 => ?_)
      · replace h := ao_ifT h c6
        obtain ⟨v7, hv7⟩ : ∃ z : Int32, z = x2 + (1 : Int32) := ⟨_, rfl⟩
        replace h := ao_letD h hv7
        refine ao_iinc 2 (v := v7) (lo' := [some (.ref (Γ.2.2.2 + r0)), some (.int x1), some (.int v7), some (.int x3)]) dX12_wrongLevel_38 rfl (by rw [hv7]; rfl) (Nat.le_of_ble_eq_true rfl) rfl ?_
        refine ao_goto 2 dX12_wrongLevel_41 (by decide) ?_
        refine ao_loForget (lo' := [some (.ref (Γ.2.2.2 + r0)), some (.int x1), some (.int v7), none]) (ao_fgS (ao_fgS (ao_fgS (ao_fgN ao_fgZ)))) ?_
        exact ih.2.1 r0 x1 v7 M _ h
      · replace h := ao_ifF h c6
        refine ao_aload_n 0 dX12_wrongLevel_20 rfl rfl ?_
        refine ao_iload_n 1 dX12_wrongLevel_21 rfl rfl ?_
        refine ao_iload_n 2 dX12_wrongLevel_22 rfl rfl ?_
        refine ao_iload_n 3 dX12_wrongLevel_23 rfl rfl ?_
        obtain ⟨hk8, h⟩ := ao_some h
        obtain ⟨p9, hp9, h⟩ := ao_bind h
        refine an_callVi r0 12 (q := (RX12, TX12, 83)) [.int x1, .int x2, .int x3] (aX12_isWrong (d - 1) (by omega) _ r0 x1 x2 x3 M ρ hp9) dX12_wrongLevel_24 lc_X12_389 li_X12_isWrong ls_X12_isWrong rfl hk8 rfl rfl (Nat.le_of_ble_eq_true rfl) (ao_hR (by omega) (by decide)) ?_
        refine ao_if_eq 32 dX12_wrongLevel_27 (by decide) (fun c10 => ?_) (fun c10 => ?_)
        · replace h := ao_ifT h c10
          obtain ⟨v11, hv11⟩ : ∃ z : Int32, z = x3 + (1 : Int32) := ⟨_, rfl⟩
          replace h := ao_letD h hv11
          refine ao_iinc 3 (v := v11) (lo' := [some (.ref (Γ.2.2.2 + r0)), some (.int x1), some (.int x2), some (.int v11)]) dX12_wrongLevel_32 rfl (by rw [hv11]; rfl) (Nat.le_of_ble_eq_true rfl) rfl ?_
          refine ao_goto 14 dX12_wrongLevel_35 (by decide) ?_
          exact ih.2.2 r0 x1 x2 v11 p9.2 _ h
        · replace h := ao_ifF h c10
          refine ao_iload_n 2 dX12_wrongLevel_30 rfl rfl ?_
          cases h
          exact ao_ireturn dX12_wrongLevel_31 rfl rfl ⟨rfl, rfl⟩
set_option maxRecDepth 100000 in
set_option maxHeartbeats 4000000 in
theorem aX12_wrongLevel {Γ : ao_C} (d : Nat) (hd : 2 ≤ d) (n : Nat) (r0 : Nat) (x1 : Int32) (M : ao_M) (ρ : ao_H) {y : Int32 × ao_M} (h : gX12_wrongLevel n r0 x1 M ρ = some y) : ao_A Γ uX12_wrongLevel d 0 0 [.ref (Γ.2.2.2 + r0), .int x1] (M, ρ) (ao_PI ρ y) := by
  refine ao_of (by decide) (ao_cat1 (Nat.le_of_ble_eq_true rfl)) (Nat.le_of_ble_eq_true rfl) ?_
  show ao_W Γ uX12_wrongLevel (ao_rm d 0 0) (ao_Q Γ (ao_PI ρ y) 0 0) 0 0 0 [some (.ref (Γ.2.2.2 + r0)), some (.int x1), none, none] [] (M, ρ)
  exact (wX12_wrongLevel d hd n).1 r0 x1 M y h

abbrev uX12_writtenLevel : ao_Mi := (yX12_writtenLevel, cX12_writtenLevel, 4, (some .int), [])
def fX12_writtenLevel : Nat → Nat → Nat → Int32 → Int32 → Int32 →  ao_M → ao_H → Option (Int32 × ao_M)
  | 0, _, _, _, _, _, _, _ => none
  | n + 1, pc, r0, x1, x2, x3, M, ρ =>
    if pc = 0 then
      if ρ.2.1 r0 = 22 then
      (ρ.1 r0 34).bind fun j2 =>
      if ρ.2.1 j2 = 0 then
      if ¬ (x1 < 0 ∨ ρ.2.2.1 j2 ≤ x1.toNatClampNeg) then
      ao_let ((M j2 x1.toNatClampNeg) - (1 : Int32)) fun v5 =>
      fX12_writtenLevel n 9 r0 x1 x2 v5 M ρ
      else none
      else none
      else none
    else if pc = 9 then
      if x3 < 0 then
        some ((-1 : Int32), M)
      else
        if ρ.2.1 r0 = 22 then
        (ρ.1 r0 56).bind fun j8 =>
        (gX12_cell r0 x1 x3 x2 M ρ).bind fun p9 =>
        if ρ.2.1 j8 = 2 then
        if ¬ (p9.1 < 0 ∨ ρ.2.2.1 j8 ≤ p9.1.toNatClampNeg) then
        if (p9.2 j8 p9.1.toNatClampNeg) = 0 then
          ao_let (x3 + (-1 : Int32)) fun v13 =>
          fX12_writtenLevel n 9 r0 x1 x2 v13 p9.2 ρ
        else
          some (x3, p9.2)
        else none
        else none
        else none
    else none
def gX12_writtenLevel (n : Nat) (r0 : Nat) (x1 : Int32) (x2 : Int32) (M : ao_M) (ρ : ao_H) : Option (Int32 × ao_M) := fX12_writtenLevel n 0 r0 x1 x2 0 M ρ
set_option maxRecDepth 100000 in
set_option maxHeartbeats 4000000 in
theorem wX12_writtenLevel {Γ : ao_C} {ρ : ao_H} (d : Nat) (hd : 1 ≤ d) : ∀ n : Nat, (∀ (r0 : Nat) (x1 : Int32) (x2 : Int32) (M : ao_M) (y : Int32 × ao_M), fX12_writtenLevel n 0 r0 x1 x2 0 M ρ = some y → ao_W Γ uX12_writtenLevel (ao_rm d 0 0) (ao_Q Γ (ao_PI ρ y) 0 0) 0 0 0 [some (.ref (Γ.2.2.2 + r0)), some (.int x1), some (.int x2), none] [] (M, ρ)) ∧ (∀ (r0 : Nat) (x1 : Int32) (x2 : Int32) (x3 : Int32) (M : ao_M) (y : Int32 × ao_M), fX12_writtenLevel n 9 r0 x1 x2 x3 M ρ = some y → ao_W Γ uX12_writtenLevel (ao_rm d 0 0) (ao_Q Γ (ao_PI ρ y) 0 0) 0 0 9 [some (.ref (Γ.2.2.2 + r0)), some (.int x1), some (.int x2), some (.int x3)] [] (M, ρ)) := by
  intro n
  induction n with
  | zero => exact ⟨fun _ _ _ _ _ h => ao_no h, fun _ _ _ _ _ _ h => ao_no h⟩
  | succ n ih =>
    refine ⟨?_, ?_⟩
    · intro r0 x1 x2 M y h
      replace h := ao_ifT h rfl
      refine ao_aload_n 0 dX12_writtenLevel_0 rfl rfl ?_
      obtain ⟨hk1, h⟩ := ao_some h
      obtain ⟨j2, hj2, h⟩ := ao_bind h
      refine an_getR r0 12 34 (q := (RX12, TX12, 83)) dX12_writtenLevel_1 rfl hk1 (Nat.le_of_ble_eq_true rfl) rfl lf_X12_202 hj2 ?_
      refine ao_iload_n 1 dX12_writtenLevel_4 rfl rfl ?_
      obtain ⟨hk3, h⟩ := ao_some h
      obtain ⟨hb4, h⟩ := ao_some h
      refine an_iaload j2 dX12_writtenLevel_5 hk3 hb4 ?_
      refine ao_iconst (v := 1) dX12_writtenLevel_6 (by decide) ?_
      refine ao_isub dX12_writtenLevel_7 ?_
      refine an_topi (fun v5 hv5 => ?_)
      replace h := ao_letD h hv5
      refine ao_istore_n 3 (lo' := [some (.ref (Γ.2.2.2 + r0)), some (.int x1), some (.int x2), some (.int v5)]) dX12_writtenLevel_8 rfl (Nat.le_of_ble_eq_true rfl) rfl ?_
      exact ih.2 r0 x1 x2 v5 M _ h
    · intro r0 x1 x2 x3 M y h
      replace h := ao_ifF h (by decide)
      replace h := ao_ifT h rfl
      refine ao_iload_n 3 dX12_writtenLevel_9 rfl rfl ?_
      refine ao_if_lt 36 dX12_writtenLevel_10 (by decide) (fun c6 => ?_) (fun c6 => ?_)
      · replace h := ao_ifT h c6
        refine ao_iconst (v := (-1)) dX12_writtenLevel_36 (by decide) ?_
        cases h
        exact ao_ireturn dX12_writtenLevel_37 rfl rfl ⟨rfl, rfl⟩
      · replace h := ao_ifF h c6
        refine ao_aload_n 0 dX12_writtenLevel_13 rfl rfl ?_
        obtain ⟨hk7, h⟩ := ao_some h
        obtain ⟨j8, hj8, h⟩ := ao_bind h
        refine an_getR r0 12 56 (q := (RX12, TX12, 83)) dX12_writtenLevel_14 rfl hk7 (Nat.le_of_ble_eq_true rfl) rfl lf_X12_269 hj8 ?_
        refine ao_aload_n 0 dX12_writtenLevel_17 rfl rfl ?_
        refine ao_iload_n 1 dX12_writtenLevel_18 rfl rfl ?_
        refine ao_iload_n 3 dX12_writtenLevel_19 rfl rfl ?_
        refine ao_iload_n 2 dX12_writtenLevel_20 rfl rfl ?_
        obtain ⟨p9, hp9, h⟩ := ao_bind h
        refine an_callVi r0 12 (q := (RX12, TX12, 83)) [.int x1, .int x3, .int x2] (aX12_cell (d - 1) (by omega) r0 x1 x3 x2 M ρ hp9) dX12_writtenLevel_21 lc_X12_357 li_X12_cell ls_X12_cell rfl hk7 rfl rfl (Nat.le_of_ble_eq_true rfl) (ao_hR (by omega) (by decide)) ?_
        obtain ⟨hk10, h⟩ := ao_some h
        obtain ⟨hb11, h⟩ := ao_some h
        refine an_zaload j8 dX12_writtenLevel_24 hk10 hb11 ?_
        refine ao_if_eq 30 dX12_writtenLevel_25 (by decide) (fun c12 => ?_) (fun c12 => ?_)
        · replace h := ao_ifT h c12
          obtain ⟨v13, hv13⟩ : ∃ z : Int32, z = x3 + (-1 : Int32) := ⟨_, rfl⟩
          replace h := ao_letD h hv13
          refine ao_iinc 3 (v := v13) (lo' := [some (.ref (Γ.2.2.2 + r0)), some (.int x1), some (.int x2), some (.int v13)]) dX12_writtenLevel_30 rfl (by rw [hv13]; rfl) (Nat.le_of_ble_eq_true rfl) rfl ?_
          refine ao_goto 9 dX12_writtenLevel_33 (by decide) ?_
          exact ih.2 r0 x1 x2 v13 p9.2 _ h
        · replace h := ao_ifF h c12
          refine ao_iload_n 3 dX12_writtenLevel_28 rfl rfl ?_
          cases h
          exact ao_ireturn dX12_writtenLevel_29 rfl rfl ⟨rfl, rfl⟩
set_option maxRecDepth 100000 in
set_option maxHeartbeats 4000000 in
theorem aX12_writtenLevel {Γ : ao_C} (d : Nat) (hd : 1 ≤ d) (n : Nat) (r0 : Nat) (x1 : Int32) (x2 : Int32) (M : ao_M) (ρ : ao_H) {y : Int32 × ao_M} (h : gX12_writtenLevel n r0 x1 x2 M ρ = some y) : ao_A Γ uX12_writtenLevel d 0 0 [.ref (Γ.2.2.2 + r0), .int x1, .int x2] (M, ρ) (ao_PI ρ y) := by
  refine ao_of (by decide) (ao_cat1 (Nat.le_of_ble_eq_true rfl)) (Nat.le_of_ble_eq_true rfl) ?_
  show ao_W Γ uX12_writtenLevel (ao_rm d 0 0) (ao_Q Γ (ao_PI ρ y) 0 0) 0 0 0 [some (.ref (Γ.2.2.2 + r0)), some (.int x1), some (.int x2), none] [] (M, ρ)
  exact (wX12_writtenLevel d hd n).1 r0 x1 x2 M y h

abbrev uX12_addRead : ao_Mi := (yX12_addRead, cX12_addRead, 5, none, [])
def gX12_addRead (r0 : Nat) (x1 : Int32) (x2 : Int32) (x3 : Int32) (M : ao_M) (ρ : ao_H) : Option (ao_M) :=
  if ρ.2.1 r0 = 22 then
  (ρ.1 r0 34).bind fun j2 =>
  if ρ.2.1 j2 = 0 then
  if ¬ (x1 < 0 ∨ ρ.2.2.1 j2 ≤ x1.toNatClampNeg) then
  (gX12_cell r0 x1 ((M j2 x1.toNatClampNeg) - (1 : Int32)) x2 M ρ).bind fun p5 =>
  ao_let p5.1 fun v6 =>
  (ρ.1 r0 55).bind fun j7 =>
  if ρ.2.1 j7 = 2 then
  if ¬ (v6 < 0 ∨ ρ.2.2.1 j7 ≤ v6.toNatClampNeg) then
  if (p5.2 j7 v6.toNatClampNeg) = 0 then
    ao_let (ao_u p5.2 j7 v6.toNatClampNeg (1 : Int32)) fun M11 =>
    (ρ.1 r0 57).bind fun j12 =>
    if ρ.2.1 j12 = 0 then
    if ¬ (v6 < 0 ∨ ρ.2.2.1 j12 ≤ v6.toNatClampNeg) then
    ao_let (ao_u M11 j12 v6.toNatClampNeg x3) fun M15 =>
    (ρ.1 r0 58).bind fun j16 =>
    (ρ.1 r0 18).bind fun j17 =>
    if ρ.2.1 j17 = 0 then
    if ¬ (x2 < 0 ∨ ρ.2.2.1 j17 ≤ x2.toNatClampNeg) then
    if ρ.2.1 j16 = 0 then
    if ¬ (v6 < 0 ∨ ρ.2.2.1 j16 ≤ v6.toNatClampNeg) then
    ao_let (ao_u M15 j16 v6.toNatClampNeg (M15 j17 x2.toNatClampNeg)) fun M22 =>
    (ρ.1 r0 59).bind fun j23 =>
    if ρ.2.1 j23 = 0 then
    if ¬ (v6 < 0 ∨ ρ.2.2.1 j23 ≤ v6.toNatClampNeg) then
    ao_let (ao_u M22 j23 v6.toNatClampNeg (M22 r0 64)) fun M26 =>
    ao_let (ao_u M26 r0 64 ((M26 r0 64) + (1 : Int32))) fun M27 =>
    some M27
    else none
    else none
    else none
    else none
    else none
    else none
    else none
    else none
  else
    some p5.2
  else none
  else none
  else none
  else none
  else none
set_option maxRecDepth 100000 in
set_option maxHeartbeats 4000000 in
theorem aX12_addRead {Γ : ao_C} (d : Nat) (hd : 1 ≤ d) (r0 : Nat) (x1 : Int32) (x2 : Int32) (x3 : Int32) (M : ao_M) (ρ : ao_H) {y : ao_M} (h : gX12_addRead r0 x1 x2 x3 M ρ = some y) : ao_A Γ uX12_addRead d 0 0 [.ref (Γ.2.2.2 + r0), .int x1, .int x2, .int x3] (M, ρ) (ao_PV ρ y) := by
  refine ao_of (by decide) (ao_cat1 (Nat.le_of_ble_eq_true rfl)) (Nat.le_of_ble_eq_true rfl) ?_
  show ao_W Γ uX12_addRead (ao_rm d 0 0) (ao_Q Γ (ao_PV ρ y) 0 0) 0 0 0 [some (.ref (Γ.2.2.2 + r0)), some (.int x1), some (.int x2), some (.int x3), none] [] (M, ρ)
  unfold gX12_addRead at h
  refine ao_aload_n 0 dX12_addRead_0 rfl rfl ?_
  refine ao_iload_n 1 dX12_addRead_1 rfl rfl ?_
  refine ao_aload_n 0 dX12_addRead_2 rfl rfl ?_
  obtain ⟨hk1, h⟩ := ao_some h
  obtain ⟨j2, hj2, h⟩ := ao_bind h
  refine an_getR r0 12 34 (q := (RX12, TX12, 83)) dX12_addRead_3 rfl hk1 (Nat.le_of_ble_eq_true rfl) rfl lf_X12_202 hj2 ?_
  refine ao_iload_n 1 dX12_addRead_6 rfl rfl ?_
  obtain ⟨hk3, h⟩ := ao_some h
  obtain ⟨hb4, h⟩ := ao_some h
  refine an_iaload j2 dX12_addRead_7 hk3 hb4 ?_
  refine ao_iconst (v := 1) dX12_addRead_8 (by decide) ?_
  refine ao_isub dX12_addRead_9 ?_
  refine ao_iload_n 2 dX12_addRead_10 rfl rfl ?_
  obtain ⟨p5, hp5, h⟩ := ao_bind h
  refine an_callVi r0 12 (q := (RX12, TX12, 83)) [.int x1, .int ((M j2 x1.toNatClampNeg) - (1 : Int32)), .int x2] (aX12_cell (d - 1) (by omega) r0 x1 ((M j2 x1.toNatClampNeg) - (1 : Int32)) x2 M ρ hp5) dX12_addRead_11 lc_X12_357 li_X12_cell ls_X12_cell rfl hk1 rfl rfl (Nat.le_of_ble_eq_true rfl) (ao_hR (by omega) (by decide)) ?_
  refine an_topi (fun v6 hv6 => ?_)
  replace h := ao_letD h hv6
  refine ao_istore 4 (lo' := [some (.ref (Γ.2.2.2 + r0)), some (.int x1), some (.int x2), some (.int x3), some (.int v6)]) dX12_addRead_14 (Nat.le_of_ble_eq_true rfl) rfl ?_
  refine ao_aload_n 0 dX12_addRead_16 rfl rfl ?_
  obtain ⟨j7, hj7, h⟩ := ao_bind h
  refine an_getR r0 12 55 (q := (RX12, TX12, 83)) dX12_addRead_17 rfl hk1 (Nat.le_of_ble_eq_true rfl) rfl lf_X12_266 hj7 ?_
  refine ao_iload 4 dX12_addRead_20 rfl ?_
  obtain ⟨hk8, h⟩ := ao_some h
  obtain ⟨hb9, h⟩ := ao_some h
  refine an_zaload j7 dX12_addRead_22 hk8 hb9 ?_
  refine ao_if_eq 27 dX12_addRead_23 (by decide) (fun c10 => ?_) (fun c10 => ?_)
  · replace h := ao_ifT h c10
    refine ao_aload_n 0 dX12_addRead_27 rfl rfl ?_
    refine an_getR r0 12 55 (q := (RX12, TX12, 83)) dX12_addRead_28 rfl hk1 (Nat.le_of_ble_eq_true rfl) rfl lf_X12_266 hj7 ?_
    refine ao_iload 4 dX12_addRead_31 rfl ?_
    refine ao_iconst (v := 1) dX12_addRead_33 (by decide) ?_
    refine an_zastore j7 dX12_addRead_34 hk8 hb9 rfl (fun M11 hM11 => ?_)
    replace h := ao_letD h hM11
    refine ao_aload_n 0 dX12_addRead_35 rfl rfl ?_
    obtain ⟨j12, hj12, h⟩ := ao_bind h
    refine an_getR r0 12 57 (q := (RX12, TX12, 83)) dX12_addRead_36 rfl hk1 (Nat.le_of_ble_eq_true rfl) rfl lf_X12_272 hj12 ?_
    refine ao_iload 4 dX12_addRead_39 rfl ?_
    refine ao_iload_n 3 dX12_addRead_41 rfl rfl ?_
    obtain ⟨hk13, h⟩ := ao_some h
    obtain ⟨hb14, h⟩ := ao_some h
    refine an_iastore j12 dX12_addRead_42 hk13 hb14 (fun M15 hM15 => ?_)
    replace h := ao_letD h hM15
    refine ao_aload_n 0 dX12_addRead_43 rfl rfl ?_
    obtain ⟨j16, hj16, h⟩ := ao_bind h
    refine an_getR r0 12 58 (q := (RX12, TX12, 83)) dX12_addRead_44 rfl hk1 (Nat.le_of_ble_eq_true rfl) rfl lf_X12_275 hj16 ?_
    refine ao_iload 4 dX12_addRead_47 rfl ?_
    refine ao_aload_n 0 dX12_addRead_49 rfl rfl ?_
    obtain ⟨j17, hj17, h⟩ := ao_bind h
    refine an_getR r0 12 18 (q := (RX12, TX12, 83)) dX12_addRead_50 rfl hk1 (Nat.le_of_ble_eq_true rfl) rfl lf_X12_157 hj17 ?_
    refine ao_iload_n 2 dX12_addRead_53 rfl rfl ?_
    obtain ⟨hk18, h⟩ := ao_some h
    obtain ⟨hb19, h⟩ := ao_some h
    refine an_iaload j17 dX12_addRead_54 hk18 hb19 ?_
    obtain ⟨hk20, h⟩ := ao_some h
    obtain ⟨hb21, h⟩ := ao_some h
    refine an_iastore j16 dX12_addRead_55 hk20 hb21 (fun M22 hM22 => ?_)
    replace h := ao_letD h hM22
    refine ao_aload_n 0 dX12_addRead_56 rfl rfl ?_
    obtain ⟨j23, hj23, h⟩ := ao_bind h
    refine an_getR r0 12 59 (q := (RX12, TX12, 83)) dX12_addRead_57 rfl hk1 (Nat.le_of_ble_eq_true rfl) rfl lf_X12_278 hj23 ?_
    refine ao_iload 4 dX12_addRead_60 rfl ?_
    refine ao_aload_n 0 dX12_addRead_62 rfl rfl ?_
    refine an_getI r0 12 64 (q := (RX12, TX12, 83)) dX12_addRead_63 rfl hk1 (Nat.le_of_ble_eq_true rfl) rfl lf_X12_366 ?_
    obtain ⟨hk24, h⟩ := ao_some h
    obtain ⟨hb25, h⟩ := ao_some h
    refine an_iastore j23 dX12_addRead_66 hk24 hb25 (fun M26 hM26 => ?_)
    replace h := ao_letD h hM26
    refine ao_aload_n 0 dX12_addRead_67 rfl rfl ?_
    refine ao_dup dX12_addRead_68 rfl ?_
    refine an_getI r0 12 64 (q := (RX12, TX12, 83)) dX12_addRead_69 rfl hk1 (Nat.le_of_ble_eq_true rfl) rfl lf_X12_366 ?_
    refine ao_iconst (v := 1) dX12_addRead_72 (by decide) ?_
    refine ao_iadd dX12_addRead_73 ?_
    refine an_putI r0 12 64 (q := (RX12, TX12, 83)) dX12_addRead_74 rfl hk1 (Nat.le_of_ble_eq_true rfl) lf_X12_366 rfl rfl rfl rfl (fun M27 hM27 => ?_)
    replace h := ao_letD h hM27
    cases h
    exact ao_return dX12_addRead_77 rfl ⟨rfl, rfl⟩
  · replace h := ao_ifF h c10
    cases h
    exact ao_return dX12_addRead_26 rfl ⟨rfl, rfl⟩

abbrev uX12_hasWrites : ao_Mi := (yX12_hasWrites, cX12_hasWrites, 3, (some .boolean), [])
def fX12_hasWrites : Nat → Nat → Nat → Int32 → Int32 →  ao_M → ao_H → Option (Int32 × ao_M)
  | 0, _, _, _, _, _, _ => none
  | n + 1, pc, r0, x1, x2, M, ρ =>
    if pc = 0 then
      fX12_hasWrites n 2 r0 x1 (0 : Int32) M ρ
    else if pc = 2 then
      if (26 : Int32) ≤ x2 then
        some ((0 : Int32), M)
      else
        if ρ.2.1 r0 = 22 then
        (ρ.1 r0 56).bind fun j3 =>
        (gX12_cell r0 x1 (0 : Int32) x2 M ρ).bind fun p4 =>
        if ρ.2.1 j3 = 2 then
        if ¬ (p4.1 < 0 ∨ ρ.2.2.1 j3 ≤ p4.1.toNatClampNeg) then
        if (p4.2 j3 p4.1.toNatClampNeg) = 0 then
          ao_let (x2 + (1 : Int32)) fun v8 =>
          fX12_hasWrites n 2 r0 x1 v8 p4.2 ρ
        else
          some ((1 : Int32), p4.2)
        else none
        else none
        else none
    else none
def gX12_hasWrites (n : Nat) (r0 : Nat) (x1 : Int32) (M : ao_M) (ρ : ao_H) : Option (Int32 × ao_M) := fX12_hasWrites n 0 r0 x1 0 M ρ
set_option maxRecDepth 100000 in
set_option maxHeartbeats 4000000 in
theorem wX12_hasWrites {Γ : ao_C} {ρ : ao_H} (d : Nat) (hd : 1 ≤ d) : ∀ n : Nat, (∀ (r0 : Nat) (x1 : Int32) (M : ao_M) (y : Int32 × ao_M), fX12_hasWrites n 0 r0 x1 0 M ρ = some y → ao_W Γ uX12_hasWrites (ao_rm d 0 0) (ao_Q Γ (ao_PI ρ y) 0 0) 0 0 0 [some (.ref (Γ.2.2.2 + r0)), some (.int x1), none] [] (M, ρ)) ∧ (∀ (r0 : Nat) (x1 : Int32) (x2 : Int32) (M : ao_M) (y : Int32 × ao_M), fX12_hasWrites n 2 r0 x1 x2 M ρ = some y → ao_W Γ uX12_hasWrites (ao_rm d 0 0) (ao_Q Γ (ao_PI ρ y) 0 0) 0 0 2 [some (.ref (Γ.2.2.2 + r0)), some (.int x1), some (.int x2)] [] (M, ρ)) := by
  intro n
  induction n with
  | zero => exact ⟨fun _ _ _ _ h => ao_no h, fun _ _ _ _ _ h => ao_no h⟩
  | succ n ih =>
    refine ⟨?_, ?_⟩
    · intro r0 x1 M y h
      replace h := ao_ifT h rfl
      refine ao_iconst (v := 0) dX12_hasWrites_0 (by decide) ?_
      refine ao_istore_n 2 (lo' := [some (.ref (Γ.2.2.2 + r0)), some (.int x1), some (.int (0 : Int32))]) dX12_hasWrites_1 rfl (Nat.le_of_ble_eq_true rfl) rfl ?_
      exact ih.2 r0 x1 (0 : Int32) M _ h
    · intro r0 x1 x2 M y h
      replace h := ao_ifF h (by decide)
      replace h := ao_ifT h rfl
      refine ao_iload_n 2 dX12_hasWrites_2 rfl rfl ?_
      refine ao_bipush (v := 26) dX12_hasWrites_3 (by decide) ?_
      refine ao_icmp_ge 31 dX12_hasWrites_5 (by decide) (fun c1 => ?_) (fun c1 => ?_)
      · replace h := ao_ifT h c1
        refine ao_iconst (v := 0) dX12_hasWrites_31 (by decide) ?_
        cases h
        exact ao_ireturn dX12_hasWrites_32 rfl rfl ⟨rfl, rfl⟩
      · replace h := ao_ifF h c1
        refine ao_aload_n 0 dX12_hasWrites_8 rfl rfl ?_
        obtain ⟨hk2, h⟩ := ao_some h
        obtain ⟨j3, hj3, h⟩ := ao_bind h
        refine an_getR r0 12 56 (q := (RX12, TX12, 83)) dX12_hasWrites_9 rfl hk2 (Nat.le_of_ble_eq_true rfl) rfl lf_X12_269 hj3 ?_
        refine ao_aload_n 0 dX12_hasWrites_12 rfl rfl ?_
        refine ao_iload_n 1 dX12_hasWrites_13 rfl rfl ?_
        refine ao_iconst (v := 0) dX12_hasWrites_14 (by decide) ?_
        refine ao_iload_n 2 dX12_hasWrites_15 rfl rfl ?_
        obtain ⟨p4, hp4, h⟩ := ao_bind h
        refine an_callVi r0 12 (q := (RX12, TX12, 83)) [.int x1, .int (0 : Int32), .int x2] (aX12_cell (d - 1) (by omega) r0 x1 (0 : Int32) x2 M ρ hp4) dX12_hasWrites_16 lc_X12_357 li_X12_cell ls_X12_cell rfl hk2 rfl rfl (Nat.le_of_ble_eq_true rfl) (ao_hR (by omega) (by decide)) ?_
        obtain ⟨hk5, h⟩ := ao_some h
        obtain ⟨hb6, h⟩ := ao_some h
        refine an_zaload j3 dX12_hasWrites_19 hk5 hb6 ?_
        refine ao_if_eq 25 dX12_hasWrites_20 (by decide) (fun c7 => ?_) (fun c7 => ?_)
        · replace h := ao_ifT h c7
          obtain ⟨v8, hv8⟩ : ∃ z : Int32, z = x2 + (1 : Int32) := ⟨_, rfl⟩
          replace h := ao_letD h hv8
          refine ao_iinc 2 (v := v8) (lo' := [some (.ref (Γ.2.2.2 + r0)), some (.int x1), some (.int v8)]) dX12_hasWrites_25 rfl (by rw [hv8]; rfl) (Nat.le_of_ble_eq_true rfl) rfl ?_
          refine ao_goto 2 dX12_hasWrites_28 (by decide) ?_
          exact ih.2 r0 x1 v8 p4.2 _ h
        · replace h := ao_ifF h c7
          refine ao_iconst (v := 1) dX12_hasWrites_23 (by decide) ?_
          cases h
          exact ao_ireturn dX12_hasWrites_24 rfl rfl ⟨rfl, rfl⟩
set_option maxRecDepth 100000 in
set_option maxHeartbeats 4000000 in
theorem aX12_hasWrites {Γ : ao_C} (d : Nat) (hd : 1 ≤ d) (n : Nat) (r0 : Nat) (x1 : Int32) (M : ao_M) (ρ : ao_H) {y : Int32 × ao_M} (h : gX12_hasWrites n r0 x1 M ρ = some y) : ao_A Γ uX12_hasWrites d 0 0 [.ref (Γ.2.2.2 + r0), .int x1] (M, ρ) (ao_PI ρ y) := by
  refine ao_of (by decide) (ao_cat1 (Nat.le_of_ble_eq_true rfl)) (Nat.le_of_ble_eq_true rfl) ?_
  show ao_W Γ uX12_hasWrites (ao_rm d 0 0) (ao_Q Γ (ao_PI ρ y) 0 0) 0 0 0 [some (.ref (Γ.2.2.2 + r0)), some (.int x1), none] [] (M, ρ)
  exact (wX12_hasWrites d hd n).1 r0 x1 M y h

abbrev uX12_say : ao_Mi := (yX12_say, cX12_say, 3, none, [])
def gX12_say (r0 : Nat) (x1 : Int32) (x2 : Int32) (M : ao_M) (ρ : ao_H) : Option (ao_M) :=
  if ρ.2.1 r0 = 22 then
  if (M r0 68) = (200 : Int32) then
    some M
  else
    (ρ.1 r0 66).bind fun j3 =>
    if ρ.2.1 j3 = 0 then
    if ¬ ((M r0 68) < 0 ∨ ρ.2.2.1 j3 ≤ (M r0 68).toNatClampNeg) then
    ao_let (ao_u M j3 (M r0 68).toNatClampNeg x2) fun M6 =>
    (ρ.1 r0 67).bind fun j7 =>
    if ρ.2.1 j7 = 0 then
    if ¬ ((M6 r0 68) < 0 ∨ ρ.2.2.1 j7 ≤ (M6 r0 68).toNatClampNeg) then
    ao_let (ao_u M6 j7 (M6 r0 68).toNatClampNeg x1) fun M10 =>
    ao_let (ao_u M10 r0 68 ((M10 r0 68) + (1 : Int32))) fun M11 =>
    some M11
    else none
    else none
    else none
    else none
  else none
set_option maxRecDepth 100000 in
set_option maxHeartbeats 4000000 in
theorem aX12_say {Γ : ao_C} (d : Nat) (hd : 0 ≤ d) (r0 : Nat) (x1 : Int32) (x2 : Int32) (M : ao_M) (ρ : ao_H) {y : ao_M} (h : gX12_say r0 x1 x2 M ρ = some y) : ao_A Γ uX12_say d 0 0 [.ref (Γ.2.2.2 + r0), .int x1, .int x2] (M, ρ) (ao_PV ρ y) := by
  refine ao_of (by decide) (ao_cat1 (Nat.le_of_ble_eq_true rfl)) (Nat.le_of_ble_eq_true rfl) ?_
  show ao_W Γ uX12_say (ao_rm d 0 0) (ao_Q Γ (ao_PV ρ y) 0 0) 0 0 0 [some (.ref (Γ.2.2.2 + r0)), some (.int x1), some (.int x2)] [] (M, ρ)
  unfold gX12_say at h
  refine ao_aload_n 0 dX12_say_0 rfl rfl ?_
  obtain ⟨hk1, h⟩ := ao_some h
  refine an_getI r0 12 68 (q := (RX12, TX12, 83)) dX12_say_1 rfl hk1 (Nat.le_of_ble_eq_true rfl) rfl lf_X12_335 ?_
  refine ao_sipush (v := 200) dX12_say_4 (by decide) ?_
  refine ao_icmp_ne 11 dX12_say_7 (by decide) (fun c2 => ?_) (fun c2 => ?_)
  · replace h := ao_ifF h c2
    refine ao_aload_n 0 dX12_say_11 rfl rfl ?_
    obtain ⟨j3, hj3, h⟩ := ao_bind h
    refine an_getR r0 12 66 (q := (RX12, TX12, 83)) dX12_say_12 rfl hk1 (Nat.le_of_ble_eq_true rfl) rfl lf_X12_290 hj3 ?_
    refine ao_aload_n 0 dX12_say_15 rfl rfl ?_
    refine an_getI r0 12 68 (q := (RX12, TX12, 83)) dX12_say_16 rfl hk1 (Nat.le_of_ble_eq_true rfl) rfl lf_X12_335 ?_
    refine ao_iload_n 2 dX12_say_19 rfl rfl ?_
    obtain ⟨hk4, h⟩ := ao_some h
    obtain ⟨hb5, h⟩ := ao_some h
    refine an_iastore j3 dX12_say_20 hk4 hb5 (fun M6 hM6 => ?_)
    replace h := ao_letD h hM6
    refine ao_aload_n 0 dX12_say_21 rfl rfl ?_
    obtain ⟨j7, hj7, h⟩ := ao_bind h
    refine an_getR r0 12 67 (q := (RX12, TX12, 83)) dX12_say_22 rfl hk1 (Nat.le_of_ble_eq_true rfl) rfl lf_X12_293 hj7 ?_
    refine ao_aload_n 0 dX12_say_25 rfl rfl ?_
    refine an_getI r0 12 68 (q := (RX12, TX12, 83)) dX12_say_26 rfl hk1 (Nat.le_of_ble_eq_true rfl) rfl lf_X12_335 ?_
    refine ao_iload_n 1 dX12_say_29 rfl rfl ?_
    obtain ⟨hk8, h⟩ := ao_some h
    obtain ⟨hb9, h⟩ := ao_some h
    refine an_iastore j7 dX12_say_30 hk8 hb9 (fun M10 hM10 => ?_)
    replace h := ao_letD h hM10
    refine ao_aload_n 0 dX12_say_31 rfl rfl ?_
    refine ao_dup dX12_say_32 rfl ?_
    refine an_getI r0 12 68 (q := (RX12, TX12, 83)) dX12_say_33 rfl hk1 (Nat.le_of_ble_eq_true rfl) rfl lf_X12_335 ?_
    refine ao_iconst (v := 1) dX12_say_36 (by decide) ?_
    refine ao_iadd dX12_say_37 ?_
    refine an_putI r0 12 68 (q := (RX12, TX12, 83)) dX12_say_38 rfl hk1 (Nat.le_of_ble_eq_true rfl) lf_X12_335 rfl rfl rfl rfl (fun M11 hM11 => ?_)
    replace h := ao_letD h hM11
    cases h
    exact ao_return dX12_say_41 rfl ⟨rfl, rfl⟩
  · replace h := ao_ifT h c2
    cases h
    exact ao_return dX12_say_10 rfl ⟨rfl, rfl⟩

abbrev uX12_endPart : ao_Mi := (yX12_endPart, cX12_endPart, 6, none, [])
def fX12_endPart : Nat → Nat → Nat → Int32 → Int32 → Int32 → Int32 → Int32 →  ao_M → ao_H → Option (ao_M)
  | 0, _, _, _, _, _, _, _, _, _ => none
  | n + 1, pc, r0, x1, x2, x3, x4, x5, M, ρ =>
    if pc = 0 then
      if ρ.2.1 r0 = 22 then
      (ρ.1 r0 34).bind fun j2 =>
      if ρ.2.1 j2 = 0 then
      if ¬ (x1 < 0 ∨ ρ.2.2.1 j2 ≤ x1.toNatClampNeg) then
      ao_let ((M j2 x1.toNatClampNeg) - (1 : Int32)) fun v5 =>
      (gX12_giveReads n r0 x1 v5 M ρ).bind fun p6 =>
      fX12_endPart n 17 r0 x1 v5 (0 : Int32) 0 0 p6 ρ
      else none
      else none
      else none
    else if pc = 17 then
      if (26 : Int32) ≤ x3 then
        if ρ.2.1 r0 = 22 then
        (gX12_level r0 x1 x2 M ρ).bind fun p9 =>
        ao_let p9.1 fun v10 =>
        (gX12_level r0 x1 (x2 - (1 : Int32)) p9.2 ρ).bind fun p11 =>
        ao_let p11.1 fun v12 =>
        fX12_endPart n 121 r0 x1 x2 v10 v12 (0 : Int32) p11.2 ρ
        else none
      else
        if ρ.2.1 r0 = 22 then
        (gX12_cell r0 x1 x2 x3 M ρ).bind fun p14 =>
        ao_let p14.1 fun v15 =>
        (gX12_cell r0 x1 (x2 - (1 : Int32)) x3 p14.2 ρ).bind fun p16 =>
        ao_let p16.1 fun v17 =>
        (ρ.1 r0 56).bind fun j18 =>
        if ρ.2.1 j18 = 2 then
        if ¬ (v15 < 0 ∨ ρ.2.2.1 j18 ≤ v15.toNatClampNeg) then
        if (p16.2 j18 v15.toNatClampNeg) = 0 then
          fX12_endPart n 95 r0 x1 x2 x3 v15 v17 p16.2 ρ
        else
          (gX12_isEager n r0 p16.2 ρ).bind fun p22 =>
          if p22.1 = 0 then
            fX12_endPart n 73 r0 x1 x2 x3 v15 v17 p22.2 ρ
          else
            if ¬ (v17 < 0 ∨ ρ.2.2.1 j18 ≤ v17.toNatClampNeg) then
            if (p22.2 j18 v17.toNatClampNeg) = 0 then
              fX12_endPart n 73 r0 x1 x2 x3 v15 v17 p22.2 ρ
            else
              fX12_endPart n 95 r0 x1 x2 x3 v15 v17 p22.2 ρ
            else none
        else none
        else none
        else none
    else if pc = 73 then
      if ρ.2.1 r0 = 22 then
      (ρ.1 r0 56).bind fun j27 =>
      if ρ.2.1 j27 = 2 then
      if ¬ (x5 < 0 ∨ ρ.2.2.1 j27 ≤ x5.toNatClampNeg) then
      ao_let (ao_u M j27 x5.toNatClampNeg (1 : Int32)) fun M30 =>
      (ρ.1 r0 60).bind fun j31 =>
      if ρ.2.1 j31 = 0 then
      if ¬ (x4 < 0 ∨ ρ.2.2.1 j31 ≤ x4.toNatClampNeg) then
      if ¬ (x5 < 0 ∨ ρ.2.2.1 j31 ≤ x5.toNatClampNeg) then
      ao_let (ao_u M30 j31 x5.toNatClampNeg (M30 j31 x4.toNatClampNeg)) fun M35 =>
      fX12_endPart n 95 r0 x1 x2 x3 x4 x5 M35 ρ
      else none
      else none
      else none
      else none
      else none
      else none
    else if pc = 95 then
      ao_let (x3 + (1 : Int32)) fun v36 =>
      fX12_endPart n 17 r0 x1 x2 v36 0 0 M ρ
    else if pc = 121 then
      if ρ.2.1 r0 = 22 then
      (ρ.1 r0 62).bind fun j38 =>
      if ρ.2.1 j38 = 0 then
      if ¬ (x3 < 0 ∨ ρ.2.2.1 j38 ≤ x3.toNatClampNeg) then
      if (M j38 x3.toNatClampNeg) ≤ x5 then
        fX12_endPart n 194 r0 x1 x2 x3 x4 x5 M ρ
      else
        if ¬ (x4 < 0 ∨ ρ.2.2.1 j38 ≤ x4.toNatClampNeg) then
        if (200 : Int32) ≤ (M j38 x4.toNatClampNeg) then
          fX12_endPart n 194 r0 x1 x2 x3 x4 x5 M ρ
        else
          (ρ.1 r0 61).bind fun j44 =>
          if ρ.2.1 j44 = 0 then
          if ¬ (((x3 * (200 : Int32)) + x5) < 0 ∨ ρ.2.2.1 j44 ≤ ((x3 * (200 : Int32)) + x5).toNatClampNeg) then
          if ¬ (((x4 * (200 : Int32)) + (M j38 x4.toNatClampNeg)) < 0 ∨ ρ.2.2.1 j44 ≤ ((x4 * (200 : Int32)) + (M j38 x4.toNatClampNeg)).toNatClampNeg) then
          ao_let (ao_u M j44 ((x4 * (200 : Int32)) + (M j38 x4.toNatClampNeg)).toNatClampNeg (M j44 ((x3 * (200 : Int32)) + x5).toNatClampNeg)) fun M48 =>
          ao_let (ao_u M48 j38 x4.toNatClampNeg ((M48 j38 x4.toNatClampNeg) + (1 : Int32))) fun M49 =>
          ao_let (x5 + (1 : Int32)) fun v50 =>
          fX12_endPart n 121 r0 x1 x2 x3 x4 v50 M49 ρ
          else none
          else none
          else none
        else none
      else none
      else none
      else none
    else if pc = 194 then
      if ρ.2.1 r0 = 22 then
      (ρ.1 r0 34).bind fun j52 =>
      if ρ.2.1 j52 = 0 then
      if ¬ (x1 < 0 ∨ ρ.2.2.1 j52 ≤ x1.toNatClampNeg) then
      ao_let (ao_u M j52 x1.toNatClampNeg ((M j52 x1.toNatClampNeg) - (1 : Int32))) fun M55 =>
      some M55
      else none
      else none
      else none
    else none
def gX12_endPart (n : Nat) (r0 : Nat) (x1 : Int32) (M : ao_M) (ρ : ao_H) : Option (ao_M) := fX12_endPart n 0 r0 x1 0 0 0 0 M ρ
set_option maxRecDepth 100000 in
set_option maxHeartbeats 4000000 in
theorem wX12_endPart {Γ : ao_C} {ρ : ao_H} (d : Nat) (hd : 2 ≤ d) : ∀ n : Nat, (∀ (r0 : Nat) (x1 : Int32) (M : ao_M) (y : ao_M), fX12_endPart n 0 r0 x1 0 0 0 0 M ρ = some y → ao_W Γ uX12_endPart (ao_rm d 0 0) (ao_Q Γ (ao_PV ρ y) 0 0) 0 0 0 [some (.ref (Γ.2.2.2 + r0)), some (.int x1), none, none, none, none] [] (M, ρ)) ∧ (∀ (r0 : Nat) (x1 : Int32) (x2 : Int32) (x3 : Int32) (M : ao_M) (y : ao_M), fX12_endPart n 17 r0 x1 x2 x3 0 0 M ρ = some y → ao_W Γ uX12_endPart (ao_rm d 0 0) (ao_Q Γ (ao_PV ρ y) 0 0) 0 0 17 [some (.ref (Γ.2.2.2 + r0)), some (.int x1), some (.int x2), some (.int x3), none, none] [] (M, ρ)) ∧ (∀ (r0 : Nat) (x1 : Int32) (x2 : Int32) (x3 : Int32) (x4 : Int32) (x5 : Int32) (M : ao_M) (y : ao_M), fX12_endPart n 73 r0 x1 x2 x3 x4 x5 M ρ = some y → ao_W Γ uX12_endPart (ao_rm d 0 0) (ao_Q Γ (ao_PV ρ y) 0 0) 0 0 73 [some (.ref (Γ.2.2.2 + r0)), some (.int x1), some (.int x2), some (.int x3), some (.int x4), some (.int x5)] [] (M, ρ)) ∧ (∀ (r0 : Nat) (x1 : Int32) (x2 : Int32) (x3 : Int32) (x4 : Int32) (x5 : Int32) (M : ao_M) (y : ao_M), fX12_endPart n 95 r0 x1 x2 x3 x4 x5 M ρ = some y → ao_W Γ uX12_endPart (ao_rm d 0 0) (ao_Q Γ (ao_PV ρ y) 0 0) 0 0 95 [some (.ref (Γ.2.2.2 + r0)), some (.int x1), some (.int x2), some (.int x3), some (.int x4), some (.int x5)] [] (M, ρ)) ∧ (∀ (r0 : Nat) (x1 : Int32) (x2 : Int32) (x3 : Int32) (x4 : Int32) (x5 : Int32) (M : ao_M) (y : ao_M), fX12_endPart n 121 r0 x1 x2 x3 x4 x5 M ρ = some y → ao_W Γ uX12_endPart (ao_rm d 0 0) (ao_Q Γ (ao_PV ρ y) 0 0) 0 0 121 [some (.ref (Γ.2.2.2 + r0)), some (.int x1), some (.int x2), some (.int x3), some (.int x4), some (.int x5)] [] (M, ρ)) ∧ (∀ (r0 : Nat) (x1 : Int32) (x2 : Int32) (x3 : Int32) (x4 : Int32) (x5 : Int32) (M : ao_M) (y : ao_M), fX12_endPart n 194 r0 x1 x2 x3 x4 x5 M ρ = some y → ao_W Γ uX12_endPart (ao_rm d 0 0) (ao_Q Γ (ao_PV ρ y) 0 0) 0 0 194 [some (.ref (Γ.2.2.2 + r0)), some (.int x1), some (.int x2), some (.int x3), some (.int x4), some (.int x5)] [] (M, ρ)) := by
  intro n
  induction n with
  | zero => exact ⟨fun _ _ _ _ h => ao_no h, fun _ _ _ _ _ _ h => ao_no h, fun _ _ _ _ _ _ _ _ h => ao_no h, fun _ _ _ _ _ _ _ _ h => ao_no h, fun _ _ _ _ _ _ _ _ h => ao_no h, fun _ _ _ _ _ _ _ _ h => ao_no h⟩
  | succ n ih =>
    refine ⟨?_, ?_, ?_, ?_, ?_, ?_⟩
    · intro r0 x1 M y h
      replace h := ao_ifT h rfl
      refine ao_aload_n 0 dX12_endPart_0 rfl rfl ?_
      obtain ⟨hk1, h⟩ := ao_some h
      obtain ⟨j2, hj2, h⟩ := ao_bind h
      refine an_getR r0 12 34 (q := (RX12, TX12, 83)) dX12_endPart_1 rfl hk1 (Nat.le_of_ble_eq_true rfl) rfl lf_X12_202 hj2 ?_
      refine ao_iload_n 1 dX12_endPart_4 rfl rfl ?_
      obtain ⟨hk3, h⟩ := ao_some h
      obtain ⟨hb4, h⟩ := ao_some h
      refine an_iaload j2 dX12_endPart_5 hk3 hb4 ?_
      refine ao_iconst (v := 1) dX12_endPart_6 (by decide) ?_
      refine ao_isub dX12_endPart_7 ?_
      refine an_topi (fun v5 hv5 => ?_)
      replace h := ao_letD h hv5
      refine ao_istore_n 2 (lo' := [some (.ref (Γ.2.2.2 + r0)), some (.int x1), some (.int v5), none, none, none]) dX12_endPart_8 rfl (Nat.le_of_ble_eq_true rfl) rfl ?_
      refine ao_aload_n 0 dX12_endPart_9 rfl rfl ?_
      refine ao_iload_n 1 dX12_endPart_10 rfl rfl ?_
      refine ao_iload_n 2 dX12_endPart_11 rfl rfl ?_
      obtain ⟨p6, hp6, h⟩ := ao_bind h
      refine an_callVv r0 12 (q := (RX12, TX12, 83)) [.int x1, .int v5] (aX12_giveReads (d - 1) (by omega) _ r0 x1 v5 M ρ hp6) dX12_endPart_12 lc_X12_376 li_X12_giveReads ls_X12_giveReads rfl hk1 rfl rfl (Nat.le_of_ble_eq_true rfl) (ao_hR (by omega) (by decide)) ?_
      refine ao_iconst (v := 0) dX12_endPart_15 (by decide) ?_
      refine ao_istore_n 3 (lo' := [some (.ref (Γ.2.2.2 + r0)), some (.int x1), some (.int v5), some (.int (0 : Int32)), none, none]) dX12_endPart_16 rfl (Nat.le_of_ble_eq_true rfl) rfl ?_
      exact ih.2.1 r0 x1 v5 (0 : Int32) p6 _ h
    · intro r0 x1 x2 x3 M y h
      replace h := ao_ifF h (by decide)
      replace h := ao_ifT h rfl
      refine ao_iload_n 3 dX12_endPart_17 rfl rfl ?_
      refine ao_bipush (v := 26) dX12_endPart_18 (by decide) ?_
      refine ao_icmp_ge 101 dX12_endPart_20 (by decide) (fun c7 => ?_) (fun c7 => ?_)
      · replace h := ao_ifT h c7
        refine ao_aload_n 0 dX12_endPart_101 rfl rfl ?_
        refine ao_iload_n 1 dX12_endPart_102 rfl rfl ?_
        refine ao_iload_n 2 dX12_endPart_103 rfl rfl ?_
        obtain ⟨hk8, h⟩ := ao_some h
        obtain ⟨p9, hp9, h⟩ := ao_bind h
        refine an_callVi r0 12 (q := (RX12, TX12, 83)) [.int x1, .int x2] (aX12_level (d - 1) (by omega) r0 x1 x2 M ρ hp9) dX12_endPart_104 lc_X12_360 li_X12_level ls_X12_level rfl hk8 rfl rfl (Nat.le_of_ble_eq_true rfl) (ao_hR (by omega) (by decide)) ?_
        refine an_topi (fun v10 hv10 => ?_)
        replace h := ao_letD h hv10
        refine ao_istore_n 3 (lo' := [some (.ref (Γ.2.2.2 + r0)), some (.int x1), some (.int x2), some (.int v10), none, none]) dX12_endPart_107 rfl (Nat.le_of_ble_eq_true rfl) rfl ?_
        refine ao_aload_n 0 dX12_endPart_108 rfl rfl ?_
        refine ao_iload_n 1 dX12_endPart_109 rfl rfl ?_
        refine ao_iload_n 2 dX12_endPart_110 rfl rfl ?_
        refine ao_iconst (v := 1) dX12_endPart_111 (by decide) ?_
        refine ao_isub dX12_endPart_112 ?_
        obtain ⟨p11, hp11, h⟩ := ao_bind h
        refine an_callVi r0 12 (q := (RX12, TX12, 83)) [.int x1, .int (x2 - (1 : Int32))] (aX12_level (d - 1) (by omega) r0 x1 (x2 - (1 : Int32)) p9.2 ρ hp11) dX12_endPart_113 lc_X12_360 li_X12_level ls_X12_level rfl hk8 rfl rfl (Nat.le_of_ble_eq_true rfl) (ao_hR (by omega) (by decide)) ?_
        refine an_topi (fun v12 hv12 => ?_)
        replace h := ao_letD h hv12
        refine ao_istore 4 (lo' := [some (.ref (Γ.2.2.2 + r0)), some (.int x1), some (.int x2), some (.int v10), some (.int v12), none]) dX12_endPart_116 (Nat.le_of_ble_eq_true rfl) rfl ?_
        refine ao_iconst (v := 0) dX12_endPart_118 (by decide) ?_
        refine ao_istore 5 (lo' := [some (.ref (Γ.2.2.2 + r0)), some (.int x1), some (.int x2), some (.int v10), some (.int v12), some (.int (0 : Int32))]) dX12_endPart_119 (Nat.le_of_ble_eq_true rfl) rfl ?_
        exact ih.2.2.2.2.1 r0 x1 x2 v10 v12 (0 : Int32) p11.2 _ h
      · replace h := ao_ifF h c7
        refine ao_aload_n 0 dX12_endPart_23 rfl rfl ?_
        refine ao_iload_n 1 dX12_endPart_24 rfl rfl ?_
        refine ao_iload_n 2 dX12_endPart_25 rfl rfl ?_
        refine ao_iload_n 3 dX12_endPart_26 rfl rfl ?_
        obtain ⟨hk13, h⟩ := ao_some h
        obtain ⟨p14, hp14, h⟩ := ao_bind h
        refine an_callVi r0 12 (q := (RX12, TX12, 83)) [.int x1, .int x2, .int x3] (aX12_cell (d - 1) (by omega) r0 x1 x2 x3 M ρ hp14) dX12_endPart_27 lc_X12_357 li_X12_cell ls_X12_cell rfl hk13 rfl rfl (Nat.le_of_ble_eq_true rfl) (ao_hR (by omega) (by decide)) ?_
        refine an_topi (fun v15 hv15 => ?_)
        replace h := ao_letD h hv15
        refine ao_istore 4 (lo' := [some (.ref (Γ.2.2.2 + r0)), some (.int x1), some (.int x2), some (.int x3), some (.int v15), none]) dX12_endPart_30 (Nat.le_of_ble_eq_true rfl) rfl ?_
        refine ao_aload_n 0 dX12_endPart_32 rfl rfl ?_
        refine ao_iload_n 1 dX12_endPart_33 rfl rfl ?_
        refine ao_iload_n 2 dX12_endPart_34 rfl rfl ?_
        refine ao_iconst (v := 1) dX12_endPart_35 (by decide) ?_
        refine ao_isub dX12_endPart_36 ?_
        refine ao_iload_n 3 dX12_endPart_37 rfl rfl ?_
        obtain ⟨p16, hp16, h⟩ := ao_bind h
        refine an_callVi r0 12 (q := (RX12, TX12, 83)) [.int x1, .int (x2 - (1 : Int32)), .int x3] (aX12_cell (d - 1) (by omega) r0 x1 (x2 - (1 : Int32)) x3 p14.2 ρ hp16) dX12_endPart_38 lc_X12_357 li_X12_cell ls_X12_cell rfl hk13 rfl rfl (Nat.le_of_ble_eq_true rfl) (ao_hR (by omega) (by decide)) ?_
        refine an_topi (fun v17 hv17 => ?_)
        replace h := ao_letD h hv17
        refine ao_istore 5 (lo' := [some (.ref (Γ.2.2.2 + r0)), some (.int x1), some (.int x2), some (.int x3), some (.int v15), some (.int v17)]) dX12_endPart_41 (Nat.le_of_ble_eq_true rfl) rfl ?_
        refine ao_aload_n 0 dX12_endPart_43 rfl rfl ?_
        obtain ⟨j18, hj18, h⟩ := ao_bind h
        refine an_getR r0 12 56 (q := (RX12, TX12, 83)) dX12_endPart_44 rfl hk13 (Nat.le_of_ble_eq_true rfl) rfl lf_X12_269 hj18 ?_
        refine ao_iload 4 dX12_endPart_47 rfl ?_
        obtain ⟨hk19, h⟩ := ao_some h
        obtain ⟨hb20, h⟩ := ao_some h
        refine an_zaload j18 dX12_endPart_49 hk19 hb20 ?_
        refine ao_if_eq 95 dX12_endPart_50 (by decide) (fun c21 => ?_) (fun c21 => ?_)
        · replace h := ao_ifT h c21
          exact ih.2.2.2.1 r0 x1 x2 x3 v15 v17 p16.2 _ h
        · replace h := ao_ifF h c21
          refine ao_aload_n 0 dX12_endPart_53 rfl rfl ?_
          obtain ⟨p22, hp22, h⟩ := ao_bind h
          refine an_callVi r0 12 (q := (RX12, TX12, 83)) [] (aX12_isEager (d - 1) (by omega) _ r0 p16.2 ρ hp22) dX12_endPart_54 lc_X12_369 li_X12_isEager ls_X12_isEager rfl hk13 rfl rfl (Nat.le_of_ble_eq_true rfl) (ao_hR (by omega) (by decide)) ?_
          refine ao_if_eq 73 dX12_endPart_57 (by decide) (fun c23 => ?_) (fun c23 => ?_)
          · replace h := ao_ifT h c23
            exact ih.2.2.1 r0 x1 x2 x3 v15 v17 p22.2 _ h
          · replace h := ao_ifF h c23
            refine ao_aload_n 0 dX12_endPart_60 rfl rfl ?_
            refine an_getR r0 12 56 (q := (RX12, TX12, 83)) dX12_endPart_61 rfl hk13 (Nat.le_of_ble_eq_true rfl) rfl lf_X12_269 hj18 ?_
            refine ao_iload 5 dX12_endPart_64 rfl ?_
            obtain ⟨hb24, h⟩ := ao_some h
            refine an_zaload j18 dX12_endPart_66 hk19 hb24 ?_
            refine ao_if_eq 73 dX12_endPart_67 (by decide) (fun c25 => ?_) (fun c25 => ?_)
            · replace h := ao_ifT h c25
              exact ih.2.2.1 r0 x1 x2 x3 v15 v17 p22.2 _ h
            · replace h := ao_ifF h c25
              refine ao_goto 95 dX12_endPart_70 (by decide) ?_
              exact ih.2.2.2.1 r0 x1 x2 x3 v15 v17 p22.2 _ h
    · intro r0 x1 x2 x3 x4 x5 M y h
      replace h := ao_ifF h (by decide)
      replace h := ao_ifF h (by decide)
      replace h := ao_ifT h rfl
      refine ao_aload_n 0 dX12_endPart_73 rfl rfl ?_
      obtain ⟨hk26, h⟩ := ao_some h
      obtain ⟨j27, hj27, h⟩ := ao_bind h
      refine an_getR r0 12 56 (q := (RX12, TX12, 83)) dX12_endPart_74 rfl hk26 (Nat.le_of_ble_eq_true rfl) rfl lf_X12_269 hj27 ?_
      refine ao_iload 5 dX12_endPart_77 rfl ?_
      refine ao_iconst (v := 1) dX12_endPart_79 (by decide) ?_
      obtain ⟨hk28, h⟩ := ao_some h
      obtain ⟨hb29, h⟩ := ao_some h
      refine an_zastore j27 dX12_endPart_80 hk28 hb29 rfl (fun M30 hM30 => ?_)
      replace h := ao_letD h hM30
      refine ao_aload_n 0 dX12_endPart_81 rfl rfl ?_
      obtain ⟨j31, hj31, h⟩ := ao_bind h
      refine an_getR r0 12 60 (q := (RX12, TX12, 83)) dX12_endPart_82 rfl hk26 (Nat.le_of_ble_eq_true rfl) rfl lf_X12_281 hj31 ?_
      refine ao_iload 5 dX12_endPart_85 rfl ?_
      refine ao_aload_n 0 dX12_endPart_87 rfl rfl ?_
      refine an_getR r0 12 60 (q := (RX12, TX12, 83)) dX12_endPart_88 rfl hk26 (Nat.le_of_ble_eq_true rfl) rfl lf_X12_281 hj31 ?_
      refine ao_iload 4 dX12_endPart_91 rfl ?_
      obtain ⟨hk32, h⟩ := ao_some h
      obtain ⟨hb33, h⟩ := ao_some h
      refine an_iaload j31 dX12_endPart_93 hk32 hb33 ?_
      obtain ⟨hb34, h⟩ := ao_some h
      refine an_iastore j31 dX12_endPart_94 hk32 hb34 (fun M35 hM35 => ?_)
      replace h := ao_letD h hM35
      exact ih.2.2.2.1 r0 x1 x2 x3 x4 x5 M35 _ h
    · intro r0 x1 x2 x3 x4 x5 M y h
      replace h := ao_ifF h (by decide)
      replace h := ao_ifF h (by decide)
      replace h := ao_ifF h (by decide)
      replace h := ao_ifT h rfl
      obtain ⟨v36, hv36⟩ : ∃ z : Int32, z = x3 + (1 : Int32) := ⟨_, rfl⟩
      replace h := ao_letD h hv36
      refine ao_iinc 3 (v := v36) (lo' := [some (.ref (Γ.2.2.2 + r0)), some (.int x1), some (.int x2), some (.int v36), some (.int x4), some (.int x5)]) dX12_endPart_95 rfl (by rw [hv36]; rfl) (Nat.le_of_ble_eq_true rfl) rfl ?_
      refine ao_goto 17 dX12_endPart_98 (by decide) ?_
      refine ao_loForget (lo' := [some (.ref (Γ.2.2.2 + r0)), some (.int x1), some (.int x2), some (.int v36), none, none]) (ao_fgS (ao_fgS (ao_fgS (ao_fgS (ao_fgN (ao_fgN ao_fgZ)))))) ?_
      exact ih.2.1 r0 x1 x2 v36 M _ h
    · intro r0 x1 x2 x3 x4 x5 M y h
      replace h := ao_ifF h (by decide)
      replace h := ao_ifF h (by decide)
      replace h := ao_ifF h (by decide)
      replace h := ao_ifF h (by decide)
      replace h := ao_ifT h rfl
      refine ao_iload 5 dX12_endPart_121 rfl ?_
      refine ao_aload_n 0 dX12_endPart_123 rfl rfl ?_
      obtain ⟨hk37, h⟩ := ao_some h
      obtain ⟨j38, hj38, h⟩ := ao_bind h
      refine an_getR r0 12 62 (q := (RX12, TX12, 83)) dX12_endPart_124 rfl hk37 (Nat.le_of_ble_eq_true rfl) rfl lf_X12_287 hj38 ?_
      refine ao_iload_n 3 dX12_endPart_127 rfl rfl ?_
      obtain ⟨hk39, h⟩ := ao_some h
      obtain ⟨hb40, h⟩ := ao_some h
      refine an_iaload j38 dX12_endPart_128 hk39 hb40 ?_
      refine ao_icmp_ge 194 dX12_endPart_129 (by decide) (fun c41 => ?_) (fun c41 => ?_)
      · replace h := ao_ifT h c41
        exact ih.2.2.2.2.2 r0 x1 x2 x3 x4 x5 M _ h
      · replace h := ao_ifF h c41
        refine ao_aload_n 0 dX12_endPart_132 rfl rfl ?_
        refine an_getR r0 12 62 (q := (RX12, TX12, 83)) dX12_endPart_133 rfl hk37 (Nat.le_of_ble_eq_true rfl) rfl lf_X12_287 hj38 ?_
        refine ao_iload 4 dX12_endPart_136 rfl ?_
        obtain ⟨hb42, h⟩ := ao_some h
        refine an_iaload j38 dX12_endPart_138 hk39 hb42 ?_
        refine ao_sipush (v := 200) dX12_endPart_139 (by decide) ?_
        refine ao_icmp_ge 194 dX12_endPart_142 (by decide) (fun c43 => ?_) (fun c43 => ?_)
        · replace h := ao_ifT h c43
          exact ih.2.2.2.2.2 r0 x1 x2 x3 x4 x5 M _ h
        · replace h := ao_ifF h c43
          refine ao_aload_n 0 dX12_endPart_145 rfl rfl ?_
          obtain ⟨j44, hj44, h⟩ := ao_bind h
          refine an_getR r0 12 61 (q := (RX12, TX12, 83)) dX12_endPart_146 rfl hk37 (Nat.le_of_ble_eq_true rfl) rfl lf_X12_284 hj44 ?_
          refine ao_iload 4 dX12_endPart_149 rfl ?_
          refine ao_sipush (v := 200) dX12_endPart_151 (by decide) ?_
          refine ao_imul dX12_endPart_154 ?_
          refine ao_aload_n 0 dX12_endPart_155 rfl rfl ?_
          refine an_getR r0 12 62 (q := (RX12, TX12, 83)) dX12_endPart_156 rfl hk37 (Nat.le_of_ble_eq_true rfl) rfl lf_X12_287 hj38 ?_
          refine ao_iload 4 dX12_endPart_159 rfl ?_
          refine an_iaload j38 dX12_endPart_161 hk39 hb42 ?_
          refine ao_iadd dX12_endPart_162 ?_
          refine ao_aload_n 0 dX12_endPart_163 rfl rfl ?_
          refine an_getR r0 12 61 (q := (RX12, TX12, 83)) dX12_endPart_164 rfl hk37 (Nat.le_of_ble_eq_true rfl) rfl lf_X12_284 hj44 ?_
          refine ao_iload_n 3 dX12_endPart_167 rfl rfl ?_
          refine ao_sipush (v := 200) dX12_endPart_168 (by decide) ?_
          refine ao_imul dX12_endPart_171 ?_
          refine ao_iload 5 dX12_endPart_172 rfl ?_
          refine ao_iadd dX12_endPart_174 ?_
          obtain ⟨hk45, h⟩ := ao_some h
          obtain ⟨hb46, h⟩ := ao_some h
          refine an_iaload j44 dX12_endPart_175 hk45 hb46 ?_
          obtain ⟨hb47, h⟩ := ao_some h
          refine an_iastore j44 dX12_endPart_176 hk45 hb47 (fun M48 hM48 => ?_)
          replace h := ao_letD h hM48
          refine ao_aload_n 0 dX12_endPart_177 rfl rfl ?_
          refine an_getR r0 12 62 (q := (RX12, TX12, 83)) dX12_endPart_178 rfl hk37 (Nat.le_of_ble_eq_true rfl) rfl lf_X12_287 hj38 ?_
          refine ao_iload 4 dX12_endPart_181 rfl ?_
          refine ao_dup2 dX12_endPart_183 rfl rfl ?_
          refine an_iaload j38 dX12_endPart_184 hk39 hb42 ?_
          refine ao_iconst (v := 1) dX12_endPart_185 (by decide) ?_
          refine ao_iadd dX12_endPart_186 ?_
          refine an_iastore j38 dX12_endPart_187 hk39 hb42 (fun M49 hM49 => ?_)
          replace h := ao_letD h hM49
          obtain ⟨v50, hv50⟩ : ∃ z : Int32, z = x5 + (1 : Int32) := ⟨_, rfl⟩
          replace h := ao_letD h hv50
          refine ao_iinc 5 (v := v50) (lo' := [some (.ref (Γ.2.2.2 + r0)), some (.int x1), some (.int x2), some (.int x3), some (.int x4), some (.int v50)]) dX12_endPart_188 rfl (by rw [hv50]; rfl) (Nat.le_of_ble_eq_true rfl) rfl ?_
          refine ao_goto 121 dX12_endPart_191 (by decide) ?_
          exact ih.2.2.2.2.1 r0 x1 x2 x3 x4 v50 M49 _ h
    · intro r0 x1 x2 x3 x4 x5 M y h
      replace h := ao_ifF h (by decide)
      replace h := ao_ifF h (by decide)
      replace h := ao_ifF h (by decide)
      replace h := ao_ifF h (by decide)
      replace h := ao_ifF h (by decide)
      replace h := ao_ifT h rfl
      refine ao_aload_n 0 dX12_endPart_194 rfl rfl ?_
      obtain ⟨hk51, h⟩ := ao_some h
      obtain ⟨j52, hj52, h⟩ := ao_bind h
      refine an_getR r0 12 34 (q := (RX12, TX12, 83)) dX12_endPart_195 rfl hk51 (Nat.le_of_ble_eq_true rfl) rfl lf_X12_202 hj52 ?_
      refine ao_iload_n 1 dX12_endPart_198 rfl rfl ?_
      refine ao_dup2 dX12_endPart_199 rfl rfl ?_
      obtain ⟨hk53, h⟩ := ao_some h
      obtain ⟨hb54, h⟩ := ao_some h
      refine an_iaload j52 dX12_endPart_200 hk53 hb54 ?_
      refine ao_iconst (v := 1) dX12_endPart_201 (by decide) ?_
      refine ao_isub dX12_endPart_202 ?_
      refine an_iastore j52 dX12_endPart_203 hk53 hb54 (fun M55 hM55 => ?_)
      replace h := ao_letD h hM55
      cases h
      exact ao_return dX12_endPart_204 rfl ⟨rfl, rfl⟩
set_option maxRecDepth 100000 in
set_option maxHeartbeats 4000000 in
theorem aX12_endPart {Γ : ao_C} (d : Nat) (hd : 2 ≤ d) (n : Nat) (r0 : Nat) (x1 : Int32) (M : ao_M) (ρ : ao_H) {y : ao_M} (h : gX12_endPart n r0 x1 M ρ = some y) : ao_A Γ uX12_endPart d 0 0 [.ref (Γ.2.2.2 + r0), .int x1] (M, ρ) (ao_PV ρ y) := by
  refine ao_of (by decide) (ao_cat1 (Nat.le_of_ble_eq_true rfl)) (Nat.le_of_ble_eq_true rfl) ?_
  show ao_W Γ uX12_endPart (ao_rm d 0 0) (ao_Q Γ (ao_PV ρ y) 0 0) 0 0 0 [some (.ref (Γ.2.2.2 + r0)), some (.int x1), none, none, none, none] [] (M, ρ)
  exact (wX12_endPart d hd n).1 r0 x1 M y h

abbrev uX12_newRecord : ao_Mi := (yX12_newRecord, cX12_newRecord, 4, (some .int), [])
def fX12_newRecord : Nat → Nat → Nat → Int32 → Int32 → Int32 →  ao_M → ao_H → Option (Int32 × ao_M)
  | 0, _, _, _, _, _, _, _ => none
  | n + 1, pc, r0, x1, x2, x3, M, ρ =>
    if pc = 0 then
      if ρ.2.1 r0 = 22 then
      if (M r0 76) = (300 : Int32) then
        some ((-1 : Int32), M)
      else
        (ρ.1 r0 69).bind fun j3 =>
        if ρ.2.1 j3 = 0 then
        if ¬ ((M r0 76) < 0 ∨ ρ.2.2.1 j3 ≤ (M r0 76).toNatClampNeg) then
        ao_let (ao_u M j3 (M r0 76).toNatClampNeg x1) fun M6 =>
        (ρ.1 r0 70).bind fun j7 =>
        if ρ.2.1 j7 = 0 then
        if ¬ ((M6 r0 76) < 0 ∨ ρ.2.2.1 j7 ≤ (M6 r0 76).toNatClampNeg) then
        ao_let (ao_u M6 j7 (M6 r0 76).toNatClampNeg x2) fun M10 =>
        (ρ.1 r0 71).bind fun j11 =>
        if ρ.2.1 j11 = 0 then
        if ¬ ((M10 r0 76) < 0 ∨ ρ.2.2.1 j11 ≤ (M10 r0 76).toNatClampNeg) then
        ao_let (ao_u M10 j11 (M10 r0 76).toNatClampNeg (M10 r0 65)) fun M14 =>
        ao_let ((M14 r0 76) * (26 : Int32)) fun v15 =>
        fX12_newRecord n 53 r0 x1 x2 v15 M14 ρ
        else none
        else none
        else none
        else none
        else none
        else none
      else none
    else if pc = 53 then
      if ρ.2.1 r0 = 22 then
      if (((M r0 76) * (26 : Int32)) + (26 : Int32)) ≤ x3 then
        ao_let (ao_u M r0 76 ((M r0 76) + (1 : Int32))) fun M18 =>
        some (((M18 r0 76) - (1 : Int32)), M18)
      else
        (ρ.1 r0 74).bind fun j19 =>
        if ρ.2.1 j19 = 2 then
        if ¬ (x3 < 0 ∨ ρ.2.2.1 j19 ≤ x3.toNatClampNeg) then
        ao_let (ao_u M j19 x3.toNatClampNeg (0 : Int32)) fun M22 =>
        (ρ.1 r0 75).bind fun j23 =>
        if ρ.2.1 j23 = 2 then
        if ¬ (x3 < 0 ∨ ρ.2.2.1 j23 ≤ x3.toNatClampNeg) then
        ao_let (ao_u M22 j23 x3.toNatClampNeg (0 : Int32)) fun M26 =>
        ao_let (x3 + (1 : Int32)) fun v27 =>
        fX12_newRecord n 53 r0 x1 x2 v27 M26 ρ
        else none
        else none
        else none
        else none
      else none
    else none
def gX12_newRecord (n : Nat) (r0 : Nat) (x1 : Int32) (x2 : Int32) (M : ao_M) (ρ : ao_H) : Option (Int32 × ao_M) := fX12_newRecord n 0 r0 x1 x2 0 M ρ
set_option maxRecDepth 100000 in
set_option maxHeartbeats 4000000 in
theorem wX12_newRecord {Γ : ao_C} {ρ : ao_H} (d : Nat) (hd : 0 ≤ d) : ∀ n : Nat, (∀ (r0 : Nat) (x1 : Int32) (x2 : Int32) (M : ao_M) (y : Int32 × ao_M), fX12_newRecord n 0 r0 x1 x2 0 M ρ = some y → ao_W Γ uX12_newRecord (ao_rm d 0 0) (ao_Q Γ (ao_PI ρ y) 0 0) 0 0 0 [some (.ref (Γ.2.2.2 + r0)), some (.int x1), some (.int x2), none] [] (M, ρ)) ∧ (∀ (r0 : Nat) (x1 : Int32) (x2 : Int32) (x3 : Int32) (M : ao_M) (y : Int32 × ao_M), fX12_newRecord n 53 r0 x1 x2 x3 M ρ = some y → ao_W Γ uX12_newRecord (ao_rm d 0 0) (ao_Q Γ (ao_PI ρ y) 0 0) 0 0 53 [some (.ref (Γ.2.2.2 + r0)), some (.int x1), some (.int x2), some (.int x3)] [] (M, ρ)) := by
  intro n
  induction n with
  | zero => exact ⟨fun _ _ _ _ _ h => ao_no h, fun _ _ _ _ _ _ h => ao_no h⟩
  | succ n ih =>
    refine ⟨?_, ?_⟩
    · intro r0 x1 x2 M y h
      replace h := ao_ifT h rfl
      refine ao_aload_n 0 dX12_newRecord_0 rfl rfl ?_
      obtain ⟨hk1, h⟩ := ao_some h
      refine an_getI r0 12 76 (q := (RX12, TX12, 83)) dX12_newRecord_1 rfl hk1 (Nat.le_of_ble_eq_true rfl) rfl lf_X12_338 ?_
      refine ao_sipush (v := 300) dX12_newRecord_4 (by decide) ?_
      refine ao_icmp_ne 12 dX12_newRecord_7 (by decide) (fun c2 => ?_) (fun c2 => ?_)
      · replace h := ao_ifF h c2
        refine ao_aload_n 0 dX12_newRecord_12 rfl rfl ?_
        obtain ⟨j3, hj3, h⟩ := ao_bind h
        refine an_getR r0 12 69 (q := (RX12, TX12, 83)) dX12_newRecord_13 rfl hk1 (Nat.le_of_ble_eq_true rfl) rfl lf_X12_296 hj3 ?_
        refine ao_aload_n 0 dX12_newRecord_16 rfl rfl ?_
        refine an_getI r0 12 76 (q := (RX12, TX12, 83)) dX12_newRecord_17 rfl hk1 (Nat.le_of_ble_eq_true rfl) rfl lf_X12_338 ?_
        refine ao_iload_n 1 dX12_newRecord_20 rfl rfl ?_
        obtain ⟨hk4, h⟩ := ao_some h
        obtain ⟨hb5, h⟩ := ao_some h
        refine an_iastore j3 dX12_newRecord_21 hk4 hb5 (fun M6 hM6 => ?_)
        replace h := ao_letD h hM6
        refine ao_aload_n 0 dX12_newRecord_22 rfl rfl ?_
        obtain ⟨j7, hj7, h⟩ := ao_bind h
        refine an_getR r0 12 70 (q := (RX12, TX12, 83)) dX12_newRecord_23 rfl hk1 (Nat.le_of_ble_eq_true rfl) rfl lf_X12_299 hj7 ?_
        refine ao_aload_n 0 dX12_newRecord_26 rfl rfl ?_
        refine an_getI r0 12 76 (q := (RX12, TX12, 83)) dX12_newRecord_27 rfl hk1 (Nat.le_of_ble_eq_true rfl) rfl lf_X12_338 ?_
        refine ao_iload_n 2 dX12_newRecord_30 rfl rfl ?_
        obtain ⟨hk8, h⟩ := ao_some h
        obtain ⟨hb9, h⟩ := ao_some h
        refine an_iastore j7 dX12_newRecord_31 hk8 hb9 (fun M10 hM10 => ?_)
        replace h := ao_letD h hM10
        refine ao_aload_n 0 dX12_newRecord_32 rfl rfl ?_
        obtain ⟨j11, hj11, h⟩ := ao_bind h
        refine an_getR r0 12 71 (q := (RX12, TX12, 83)) dX12_newRecord_33 rfl hk1 (Nat.le_of_ble_eq_true rfl) rfl lf_X12_302 hj11 ?_
        refine ao_aload_n 0 dX12_newRecord_36 rfl rfl ?_
        refine an_getI r0 12 76 (q := (RX12, TX12, 83)) dX12_newRecord_37 rfl hk1 (Nat.le_of_ble_eq_true rfl) rfl lf_X12_338 ?_
        refine ao_aload_n 0 dX12_newRecord_40 rfl rfl ?_
        refine an_getI r0 12 65 (q := (RX12, TX12, 83)) dX12_newRecord_41 rfl hk1 (Nat.le_of_ble_eq_true rfl) rfl lf_X12_341 ?_
        obtain ⟨hk12, h⟩ := ao_some h
        obtain ⟨hb13, h⟩ := ao_some h
        refine an_iastore j11 dX12_newRecord_44 hk12 hb13 (fun M14 hM14 => ?_)
        replace h := ao_letD h hM14
        refine ao_aload_n 0 dX12_newRecord_45 rfl rfl ?_
        refine an_getI r0 12 76 (q := (RX12, TX12, 83)) dX12_newRecord_46 rfl hk1 (Nat.le_of_ble_eq_true rfl) rfl lf_X12_338 ?_
        refine ao_bipush (v := 26) dX12_newRecord_49 (by decide) ?_
        refine ao_imul dX12_newRecord_51 ?_
        refine an_topi (fun v15 hv15 => ?_)
        replace h := ao_letD h hv15
        refine ao_istore_n 3 (lo' := [some (.ref (Γ.2.2.2 + r0)), some (.int x1), some (.int x2), some (.int v15)]) dX12_newRecord_52 rfl (Nat.le_of_ble_eq_true rfl) rfl ?_
        exact ih.2 r0 x1 x2 v15 M14 _ h
      · replace h := ao_ifT h c2
        refine ao_iconst (v := (-1)) dX12_newRecord_10 (by decide) ?_
        cases h
        exact ao_ireturn dX12_newRecord_11 rfl rfl ⟨rfl, rfl⟩
    · intro r0 x1 x2 x3 M y h
      replace h := ao_ifF h (by decide)
      replace h := ao_ifT h rfl
      refine ao_iload_n 3 dX12_newRecord_53 rfl rfl ?_
      refine ao_aload_n 0 dX12_newRecord_54 rfl rfl ?_
      obtain ⟨hk16, h⟩ := ao_some h
      refine an_getI r0 12 76 (q := (RX12, TX12, 83)) dX12_newRecord_55 rfl hk16 (Nat.le_of_ble_eq_true rfl) rfl lf_X12_338 ?_
      refine ao_bipush (v := 26) dX12_newRecord_58 (by decide) ?_
      refine ao_imul dX12_newRecord_60 ?_
      refine ao_bipush (v := 26) dX12_newRecord_61 (by decide) ?_
      refine ao_iadd dX12_newRecord_63 ?_
      refine ao_icmp_ge 87 dX12_newRecord_64 (by decide) (fun c17 => ?_) (fun c17 => ?_)
      · replace h := ao_ifT h c17
        refine ao_aload_n 0 dX12_newRecord_87 rfl rfl ?_
        refine ao_dup dX12_newRecord_88 rfl ?_
        refine an_getI r0 12 76 (q := (RX12, TX12, 83)) dX12_newRecord_89 rfl hk16 (Nat.le_of_ble_eq_true rfl) rfl lf_X12_338 ?_
        refine ao_iconst (v := 1) dX12_newRecord_92 (by decide) ?_
        refine ao_iadd dX12_newRecord_93 ?_
        refine an_putI r0 12 76 (q := (RX12, TX12, 83)) dX12_newRecord_94 rfl hk16 (Nat.le_of_ble_eq_true rfl) lf_X12_338 rfl rfl rfl rfl (fun M18 hM18 => ?_)
        replace h := ao_letD h hM18
        refine ao_aload_n 0 dX12_newRecord_97 rfl rfl ?_
        refine an_getI r0 12 76 (q := (RX12, TX12, 83)) dX12_newRecord_98 rfl hk16 (Nat.le_of_ble_eq_true rfl) rfl lf_X12_338 ?_
        refine ao_iconst (v := 1) dX12_newRecord_101 (by decide) ?_
        refine ao_isub dX12_newRecord_102 ?_
        cases h
        exact ao_ireturn dX12_newRecord_103 rfl rfl ⟨rfl, rfl⟩
      · replace h := ao_ifF h c17
        refine ao_aload_n 0 dX12_newRecord_67 rfl rfl ?_
        obtain ⟨j19, hj19, h⟩ := ao_bind h
        refine an_getR r0 12 74 (q := (RX12, TX12, 83)) dX12_newRecord_68 rfl hk16 (Nat.le_of_ble_eq_true rfl) rfl lf_X12_311 hj19 ?_
        refine ao_iload_n 3 dX12_newRecord_71 rfl rfl ?_
        refine ao_iconst (v := 0) dX12_newRecord_72 (by decide) ?_
        obtain ⟨hk20, h⟩ := ao_some h
        obtain ⟨hb21, h⟩ := ao_some h
        refine an_zastore j19 dX12_newRecord_73 hk20 hb21 rfl (fun M22 hM22 => ?_)
        replace h := ao_letD h hM22
        refine ao_aload_n 0 dX12_newRecord_74 rfl rfl ?_
        obtain ⟨j23, hj23, h⟩ := ao_bind h
        refine an_getR r0 12 75 (q := (RX12, TX12, 83)) dX12_newRecord_75 rfl hk16 (Nat.le_of_ble_eq_true rfl) rfl lf_X12_314 hj23 ?_
        refine ao_iload_n 3 dX12_newRecord_78 rfl rfl ?_
        refine ao_iconst (v := 0) dX12_newRecord_79 (by decide) ?_
        obtain ⟨hk24, h⟩ := ao_some h
        obtain ⟨hb25, h⟩ := ao_some h
        refine an_zastore j23 dX12_newRecord_80 hk24 hb25 rfl (fun M26 hM26 => ?_)
        replace h := ao_letD h hM26
        obtain ⟨v27, hv27⟩ : ∃ z : Int32, z = x3 + (1 : Int32) := ⟨_, rfl⟩
        replace h := ao_letD h hv27
        refine ao_iinc 3 (v := v27) (lo' := [some (.ref (Γ.2.2.2 + r0)), some (.int x1), some (.int x2), some (.int v27)]) dX12_newRecord_81 rfl (by rw [hv27]; rfl) (Nat.le_of_ble_eq_true rfl) rfl ?_
        refine ao_goto 53 dX12_newRecord_84 (by decide) ?_
        exact ih.2 r0 x1 x2 v27 M26 _ h
set_option maxRecDepth 100000 in
set_option maxHeartbeats 4000000 in
theorem aX12_newRecord {Γ : ao_C} (d : Nat) (hd : 0 ≤ d) (n : Nat) (r0 : Nat) (x1 : Int32) (x2 : Int32) (M : ao_M) (ρ : ao_H) {y : Int32 × ao_M} (h : gX12_newRecord n r0 x1 x2 M ρ = some y) : ao_A Γ uX12_newRecord d 0 0 [.ref (Γ.2.2.2 + r0), .int x1, .int x2] (M, ρ) (ao_PI ρ y) := by
  refine ao_of (by decide) (ao_cat1 (Nat.le_of_ble_eq_true rfl)) (Nat.le_of_ble_eq_true rfl) ?_
  show ao_W Γ uX12_newRecord (ao_rm d 0 0) (ao_Q Γ (ao_PI ρ y) 0 0) 0 0 0 [some (.ref (Γ.2.2.2 + r0)), some (.int x1), some (.int x2), none] [] (M, ρ)
  exact (wX12_newRecord d hd n).1 r0 x1 x2 M y h

abbrev uX12_pop : ao_Mi := (yX12_pop, cX12_pop, 2, (some .int), [])
def gX12_pop (r0 : Nat) (x1 : Int32) (M : ao_M) (ρ : ao_H) : Option (Int32 × ao_M) :=
  if ρ.2.1 r0 = 22 then
  (ρ.1 r0 33).bind fun j2 =>
  if ρ.2.1 j2 = 0 then
  if ¬ (x1 < 0 ∨ ρ.2.2.1 j2 ≤ x1.toNatClampNeg) then
  ao_let (ao_u M j2 x1.toNatClampNeg ((M j2 x1.toNatClampNeg) - (1 : Int32))) fun M5 =>
  (ρ.1 r0 32).bind fun j6 =>
  if ρ.2.1 j6 = 0 then
  if ¬ (((x1 * (64 : Int32)) + (M5 j2 x1.toNatClampNeg)) < 0 ∨ ρ.2.2.1 j6 ≤ ((x1 * (64 : Int32)) + (M5 j2 x1.toNatClampNeg)).toNatClampNeg) then
  some ((M5 j6 ((x1 * (64 : Int32)) + (M5 j2 x1.toNatClampNeg)).toNatClampNeg), M5)
  else none
  else none
  else none
  else none
  else none
set_option maxRecDepth 100000 in
set_option maxHeartbeats 4000000 in
theorem aX12_pop {Γ : ao_C} (d : Nat) (hd : 0 ≤ d) (r0 : Nat) (x1 : Int32) (M : ao_M) (ρ : ao_H) {y : Int32 × ao_M} (h : gX12_pop r0 x1 M ρ = some y) : ao_A Γ uX12_pop d 0 0 [.ref (Γ.2.2.2 + r0), .int x1] (M, ρ) (ao_PI ρ y) := by
  refine ao_of (by decide) (ao_cat1 (Nat.le_of_ble_eq_true rfl)) (Nat.le_of_ble_eq_true rfl) ?_
  show ao_W Γ uX12_pop (ao_rm d 0 0) (ao_Q Γ (ao_PI ρ y) 0 0) 0 0 0 [some (.ref (Γ.2.2.2 + r0)), some (.int x1)] [] (M, ρ)
  unfold gX12_pop at h
  refine ao_aload_n 0 dX12_pop_0 rfl rfl ?_
  obtain ⟨hk1, h⟩ := ao_some h
  obtain ⟨j2, hj2, h⟩ := ao_bind h
  refine an_getR r0 12 33 (q := (RX12, TX12, 83)) dX12_pop_1 rfl hk1 (Nat.le_of_ble_eq_true rfl) rfl lf_X12_199 hj2 ?_
  refine ao_iload_n 1 dX12_pop_4 rfl rfl ?_
  refine ao_dup2 dX12_pop_5 rfl rfl ?_
  obtain ⟨hk3, h⟩ := ao_some h
  obtain ⟨hb4, h⟩ := ao_some h
  refine an_iaload j2 dX12_pop_6 hk3 hb4 ?_
  refine ao_iconst (v := 1) dX12_pop_7 (by decide) ?_
  refine ao_isub dX12_pop_8 ?_
  refine an_iastore j2 dX12_pop_9 hk3 hb4 (fun M5 hM5 => ?_)
  replace h := ao_letD h hM5
  refine ao_aload_n 0 dX12_pop_10 rfl rfl ?_
  obtain ⟨j6, hj6, h⟩ := ao_bind h
  refine an_getR r0 12 32 (q := (RX12, TX12, 83)) dX12_pop_11 rfl hk1 (Nat.le_of_ble_eq_true rfl) rfl lf_X12_196 hj6 ?_
  refine ao_iload_n 1 dX12_pop_14 rfl rfl ?_
  refine ao_bipush (v := 64) dX12_pop_15 (by decide) ?_
  refine ao_imul dX12_pop_17 ?_
  refine ao_aload_n 0 dX12_pop_18 rfl rfl ?_
  refine an_getR r0 12 33 (q := (RX12, TX12, 83)) dX12_pop_19 rfl hk1 (Nat.le_of_ble_eq_true rfl) rfl lf_X12_199 hj2 ?_
  refine ao_iload_n 1 dX12_pop_22 rfl rfl ?_
  refine an_iaload j2 dX12_pop_23 hk3 hb4 ?_
  refine ao_iadd dX12_pop_24 ?_
  obtain ⟨hk7, h⟩ := ao_some h
  obtain ⟨hb8, h⟩ := ao_some h
  refine an_iaload j6 dX12_pop_25 hk7 hb8 ?_
  cases h
  exact ao_ireturn dX12_pop_26 rfl rfl ⟨rfl, rfl⟩

abbrev uX12_push : ao_Mi := (yX12_push, cX12_push, 3, none, [])
def gX12_push (r0 : Nat) (x1 : Int32) (x2 : Int32) (M : ao_M) (ρ : ao_H) : Option (ao_M) :=
  if ρ.2.1 r0 = 22 then
  (ρ.1 r0 32).bind fun j2 =>
  (ρ.1 r0 33).bind fun j3 =>
  if ρ.2.1 j3 = 0 then
  if ¬ (x1 < 0 ∨ ρ.2.2.1 j3 ≤ x1.toNatClampNeg) then
  if ρ.2.1 j2 = 0 then
  if ¬ (((x1 * (64 : Int32)) + (M j3 x1.toNatClampNeg)) < 0 ∨ ρ.2.2.1 j2 ≤ ((x1 * (64 : Int32)) + (M j3 x1.toNatClampNeg)).toNatClampNeg) then
  ao_let (ao_u M j2 ((x1 * (64 : Int32)) + (M j3 x1.toNatClampNeg)).toNatClampNeg x2) fun M8 =>
  ao_let (ao_u M8 j3 x1.toNatClampNeg ((M8 j3 x1.toNatClampNeg) + (1 : Int32))) fun M9 =>
  some M9
  else none
  else none
  else none
  else none
  else none
set_option maxRecDepth 100000 in
set_option maxHeartbeats 4000000 in
theorem aX12_push {Γ : ao_C} (d : Nat) (hd : 0 ≤ d) (r0 : Nat) (x1 : Int32) (x2 : Int32) (M : ao_M) (ρ : ao_H) {y : ao_M} (h : gX12_push r0 x1 x2 M ρ = some y) : ao_A Γ uX12_push d 0 0 [.ref (Γ.2.2.2 + r0), .int x1, .int x2] (M, ρ) (ao_PV ρ y) := by
  refine ao_of (by decide) (ao_cat1 (Nat.le_of_ble_eq_true rfl)) (Nat.le_of_ble_eq_true rfl) ?_
  show ao_W Γ uX12_push (ao_rm d 0 0) (ao_Q Γ (ao_PV ρ y) 0 0) 0 0 0 [some (.ref (Γ.2.2.2 + r0)), some (.int x1), some (.int x2)] [] (M, ρ)
  unfold gX12_push at h
  refine ao_aload_n 0 dX12_push_0 rfl rfl ?_
  obtain ⟨hk1, h⟩ := ao_some h
  obtain ⟨j2, hj2, h⟩ := ao_bind h
  refine an_getR r0 12 32 (q := (RX12, TX12, 83)) dX12_push_1 rfl hk1 (Nat.le_of_ble_eq_true rfl) rfl lf_X12_196 hj2 ?_
  refine ao_iload_n 1 dX12_push_4 rfl rfl ?_
  refine ao_bipush (v := 64) dX12_push_5 (by decide) ?_
  refine ao_imul dX12_push_7 ?_
  refine ao_aload_n 0 dX12_push_8 rfl rfl ?_
  obtain ⟨j3, hj3, h⟩ := ao_bind h
  refine an_getR r0 12 33 (q := (RX12, TX12, 83)) dX12_push_9 rfl hk1 (Nat.le_of_ble_eq_true rfl) rfl lf_X12_199 hj3 ?_
  refine ao_iload_n 1 dX12_push_12 rfl rfl ?_
  obtain ⟨hk4, h⟩ := ao_some h
  obtain ⟨hb5, h⟩ := ao_some h
  refine an_iaload j3 dX12_push_13 hk4 hb5 ?_
  refine ao_iadd dX12_push_14 ?_
  refine ao_iload_n 2 dX12_push_15 rfl rfl ?_
  obtain ⟨hk6, h⟩ := ao_some h
  obtain ⟨hb7, h⟩ := ao_some h
  refine an_iastore j2 dX12_push_16 hk6 hb7 (fun M8 hM8 => ?_)
  replace h := ao_letD h hM8
  refine ao_aload_n 0 dX12_push_17 rfl rfl ?_
  refine an_getR r0 12 33 (q := (RX12, TX12, 83)) dX12_push_18 rfl hk1 (Nat.le_of_ble_eq_true rfl) rfl lf_X12_199 hj3 ?_
  refine ao_iload_n 1 dX12_push_21 rfl rfl ?_
  refine ao_dup2 dX12_push_22 rfl rfl ?_
  refine an_iaload j3 dX12_push_23 hk4 hb5 ?_
  refine ao_iconst (v := 1) dX12_push_24 (by decide) ?_
  refine ao_iadd dX12_push_25 ?_
  refine an_iastore j3 dX12_push_26 hk4 hb5 (fun M9 hM9 => ?_)
  replace h := ao_letD h hM9
  cases h
  exact ao_return dX12_push_27 rfl ⟨rfl, rfl⟩

abbrev uX12_isBusy : ao_Mi := (yX12_isBusy, cX12_isBusy, 3, (some .boolean), [])
def fX12_isBusy : Nat → Nat → Nat → Int32 → Int32 →  ao_M → ao_H → Option (Int32 × ao_M)
  | 0, _, _, _, _, _, _ => none
  | n + 1, pc, r0, x1, x2, M, ρ =>
    if pc = 0 then
      if ρ.2.1 r0 = 22 then
      if (M r0 27) = (4 : Int32) then
        fX12_isBusy n 12 r0 x1 (0 : Int32) M ρ
      else
        some ((0 : Int32), M)
      else none
    else if pc = 12 then
      if (6 : Int32) ≤ x2 then
        some ((0 : Int32), M)
      else
        if x2 = x1 then
          fX12_isBusy n 35 r0 x1 x2 M ρ
        else
          if ρ.2.1 r0 = 22 then
          (ρ.1 r0 29).bind fun j6 =>
          if ρ.2.1 j6 = 0 then
          if ¬ (x2 < 0 ∨ ρ.2.2.1 j6 ≤ x2.toNatClampNeg) then
          if (M j6 x2.toNatClampNeg) = (2 : Int32) then
            some ((1 : Int32), M)
          else
            fX12_isBusy n 35 r0 x1 x2 M ρ
          else none
          else none
          else none
    else if pc = 35 then
      ao_let (x2 + (1 : Int32)) fun v10 =>
      fX12_isBusy n 12 r0 x1 v10 M ρ
    else none
def gX12_isBusy (n : Nat) (r0 : Nat) (x1 : Int32) (M : ao_M) (ρ : ao_H) : Option (Int32 × ao_M) := fX12_isBusy n 0 r0 x1 0 M ρ
set_option maxRecDepth 100000 in
set_option maxHeartbeats 4000000 in
theorem wX12_isBusy {Γ : ao_C} {ρ : ao_H} (d : Nat) (hd : 0 ≤ d) : ∀ n : Nat, (∀ (r0 : Nat) (x1 : Int32) (M : ao_M) (y : Int32 × ao_M), fX12_isBusy n 0 r0 x1 0 M ρ = some y → ao_W Γ uX12_isBusy (ao_rm d 0 0) (ao_Q Γ (ao_PI ρ y) 0 0) 0 0 0 [some (.ref (Γ.2.2.2 + r0)), some (.int x1), none] [] (M, ρ)) ∧ (∀ (r0 : Nat) (x1 : Int32) (x2 : Int32) (M : ao_M) (y : Int32 × ao_M), fX12_isBusy n 12 r0 x1 x2 M ρ = some y → ao_W Γ uX12_isBusy (ao_rm d 0 0) (ao_Q Γ (ao_PI ρ y) 0 0) 0 0 12 [some (.ref (Γ.2.2.2 + r0)), some (.int x1), some (.int x2)] [] (M, ρ)) ∧ (∀ (r0 : Nat) (x1 : Int32) (x2 : Int32) (M : ao_M) (y : Int32 × ao_M), fX12_isBusy n 35 r0 x1 x2 M ρ = some y → ao_W Γ uX12_isBusy (ao_rm d 0 0) (ao_Q Γ (ao_PI ρ y) 0 0) 0 0 35 [some (.ref (Γ.2.2.2 + r0)), some (.int x1), some (.int x2)] [] (M, ρ)) := by
  intro n
  induction n with
  | zero => exact ⟨fun _ _ _ _ h => ao_no h, fun _ _ _ _ _ h => ao_no h, fun _ _ _ _ _ h => ao_no h⟩
  | succ n ih =>
    refine ⟨?_, ?_, ?_⟩
    · intro r0 x1 M y h
      replace h := ao_ifT h rfl
      refine ao_aload_n 0 dX12_isBusy_0 rfl rfl ?_
      obtain ⟨hk1, h⟩ := ao_some h
      refine an_getI r0 12 27 (q := (RX12, TX12, 83)) dX12_isBusy_1 rfl hk1 (Nat.le_of_ble_eq_true rfl) rfl lf_X12_332 ?_
      refine ao_iconst (v := 4) dX12_isBusy_4 (by decide) ?_
      refine ao_icmp_eq 10 dX12_isBusy_5 (by decide) (fun c2 => ?_) (fun c2 => ?_)
      · replace h := ao_ifT h c2
        refine ao_iconst (v := 0) dX12_isBusy_10 (by decide) ?_
        refine ao_istore_n 2 (lo' := [some (.ref (Γ.2.2.2 + r0)), some (.int x1), some (.int (0 : Int32))]) dX12_isBusy_11 rfl (Nat.le_of_ble_eq_true rfl) rfl ?_
        exact ih.2.1 r0 x1 (0 : Int32) M _ h
      · replace h := ao_ifF h c2
        refine ao_iconst (v := 0) dX12_isBusy_8 (by decide) ?_
        cases h
        exact ao_ireturn dX12_isBusy_9 rfl rfl ⟨rfl, rfl⟩
    · intro r0 x1 x2 M y h
      replace h := ao_ifF h (by decide)
      replace h := ao_ifT h rfl
      refine ao_iload_n 2 dX12_isBusy_12 rfl rfl ?_
      refine ao_bipush (v := 6) dX12_isBusy_13 (by decide) ?_
      refine ao_icmp_ge 41 dX12_isBusy_15 (by decide) (fun c3 => ?_) (fun c3 => ?_)
      · replace h := ao_ifT h c3
        refine ao_iconst (v := 0) dX12_isBusy_41 (by decide) ?_
        cases h
        exact ao_ireturn dX12_isBusy_42 rfl rfl ⟨rfl, rfl⟩
      · replace h := ao_ifF h c3
        refine ao_iload_n 2 dX12_isBusy_18 rfl rfl ?_
        refine ao_iload_n 1 dX12_isBusy_19 rfl rfl ?_
        refine ao_icmp_eq 35 dX12_isBusy_20 (by decide) (fun c4 => ?_) (fun c4 => ?_)
        · replace h := ao_ifT h c4
          exact ih.2.2 r0 x1 x2 M _ h
        · replace h := ao_ifF h c4
          refine ao_aload_n 0 dX12_isBusy_23 rfl rfl ?_
          obtain ⟨hk5, h⟩ := ao_some h
          obtain ⟨j6, hj6, h⟩ := ao_bind h
          refine an_getR r0 12 29 (q := (RX12, TX12, 83)) dX12_isBusy_24 rfl hk5 (Nat.le_of_ble_eq_true rfl) rfl lf_X12_187 hj6 ?_
          refine ao_iload_n 2 dX12_isBusy_27 rfl rfl ?_
          obtain ⟨hk7, h⟩ := ao_some h
          obtain ⟨hb8, h⟩ := ao_some h
          refine an_iaload j6 dX12_isBusy_28 hk7 hb8 ?_
          refine ao_iconst (v := 2) dX12_isBusy_29 (by decide) ?_
          refine ao_icmp_ne 35 dX12_isBusy_30 (by decide) (fun c9 => ?_) (fun c9 => ?_)
          · replace h := ao_ifF h c9
            exact ih.2.2 r0 x1 x2 M _ h
          · replace h := ao_ifT h c9
            refine ao_iconst (v := 1) dX12_isBusy_33 (by decide) ?_
            cases h
            exact ao_ireturn dX12_isBusy_34 rfl rfl ⟨rfl, rfl⟩
    · intro r0 x1 x2 M y h
      replace h := ao_ifF h (by decide)
      replace h := ao_ifF h (by decide)
      replace h := ao_ifT h rfl
      obtain ⟨v10, hv10⟩ : ∃ z : Int32, z = x2 + (1 : Int32) := ⟨_, rfl⟩
      replace h := ao_letD h hv10
      refine ao_iinc 2 (v := v10) (lo' := [some (.ref (Γ.2.2.2 + r0)), some (.int x1), some (.int v10)]) dX12_isBusy_35 rfl (by rw [hv10]; rfl) (Nat.le_of_ble_eq_true rfl) rfl ?_
      refine ao_goto 12 dX12_isBusy_38 (by decide) ?_
      exact ih.2.1 r0 x1 v10 M _ h
set_option maxRecDepth 100000 in
set_option maxHeartbeats 4000000 in
theorem aX12_isBusy {Γ : ao_C} (d : Nat) (hd : 0 ≤ d) (n : Nat) (r0 : Nat) (x1 : Int32) (M : ao_M) (ρ : ao_H) {y : Int32 × ao_M} (h : gX12_isBusy n r0 x1 M ρ = some y) : ao_A Γ uX12_isBusy d 0 0 [.ref (Γ.2.2.2 + r0), .int x1] (M, ρ) (ao_PI ρ y) := by
  refine ao_of (by decide) (ao_cat1 (Nat.le_of_ble_eq_true rfl)) (Nat.le_of_ble_eq_true rfl) ?_
  show ao_W Γ uX12_isBusy (ao_rm d 0 0) (ao_Q Γ (ao_PI ρ y) 0 0) 0 0 0 [some (.ref (Γ.2.2.2 + r0)), some (.int x1), none] [] (M, ρ)
  exact (wX12_isBusy d hd n).1 r0 x1 M y h

abbrev uX12_beginBlock : ao_Mi := (yX12_beginBlock, cX12_beginBlock, 7, (some .int), [])
def fX12_beginBlock : Nat → Nat → Nat → Int32 → Int32 → Int32 → Int32 → Int32 → Int32 → Int32 → Int32 → Nat →  ao_M → ao_H → Option (Int32 × ao_M)
  | 0, _, _, _, _, _, _, _, _, _, _, _, _, _ => none
  | n + 1, pc, r0, x1, x2, x3, x4, x5, x6, s0, s1, q2, M, ρ =>
    if pc = 0 then
      if (x2 - x2 / (2 : Int32) * (2 : Int32)) = (1 : Int32) then
        fX12_beginBlock n 12 r0 x1 x2 x3 0 0 0 (1 : Int32) 0 0 M ρ
      else
        fX12_beginBlock n 12 r0 x1 x2 x3 0 0 0 (0 : Int32) 0 0 M ρ
    else if pc = 12 then
      ao_let ((x2 / (2 : Int32)) - (1 : Int32)) fun v2 =>
      if ρ.2.1 r0 = 22 then
      (ρ.1 r0 29).bind fun j4 =>
      if ρ.2.1 j4 = 0 then
      if ¬ (x1 < 0 ∨ ρ.2.2.1 j4 ≤ x1.toNatClampNeg) then
      if (M j4 x1.toNatClampNeg) = (2 : Int32) then
        (ρ.1 r0 30).bind fun j8 =>
        if ρ.2.1 j8 = 0 then
        if ¬ (x1 < 0 ∨ ρ.2.2.1 j8 ≤ x1.toNatClampNeg) then
        ao_let (ao_u M j8 x1.toNatClampNeg ((M j8 x1.toNatClampNeg) + (1 : Int32))) fun M11 =>
        if s0 = 0 then
          fX12_beginBlock n 172 r0 x1 x2 x3 s0 v2 0 0 0 0 M11 ρ
        else
          if v2 < 0 then
            fX12_beginBlock n 177 r0 x1 x2 x3 s0 v2 0 (0 : Int32) 0 0 M11 ρ
          else
            fX12_beginBlock n 172 r0 x1 x2 x3 s0 v2 0 0 0 0 M11 ρ
        else none
        else none
      else
        (gX12_isBusy n r0 x1 M ρ).bind fun p14 =>
        if p14.1 = 0 then
          (ρ.1 r0 30).bind fun j16 =>
          if ρ.2.1 j16 = 0 then
          if ¬ (x1 < 0 ∨ ρ.2.2.1 j16 ≤ x1.toNatClampNeg) then
          ao_let (ao_u p14.2 j16 x1.toNatClampNeg ((p14.2 j16 x1.toNatClampNeg) + (1 : Int32))) fun M19 =>
          (gX12_openLevel n r0 x1 v2 x3 M19 ρ).bind fun p20 =>
          (ρ.1 r0 43).bind fun j21 =>
          (ρ.1 r0 35).bind fun j22 =>
          if ρ.2.1 j22 = 0 then
          if ¬ (x1 < 0 ∨ ρ.2.2.1 j22 ≤ x1.toNatClampNeg) then
          (gX12_level r0 x1 (p20 j22 x1.toNatClampNeg) p20 ρ).bind fun p25 =>
          if ρ.2.1 j21 = 0 then
          if ¬ (p25.1 < 0 ∨ ρ.2.2.1 j21 ≤ p25.1.toNatClampNeg) then
          ao_let (ao_u p25.2 j21 p25.1.toNatClampNeg (0 : Int32)) fun M28 =>
          ao_let (ao_u M28 j22 x1.toNatClampNeg ((M28 j22 x1.toNatClampNeg) + (1 : Int32))) fun M29 =>
          (ρ.1 r0 51).bind fun j30 =>
          (gX12_level r0 x1 (0 : Int32) M29 ρ).bind fun p31 =>
          if ρ.2.1 j30 = 0 then
          if ¬ (p31.1 < 0 ∨ ρ.2.2.1 j30 ≤ p31.1.toNatClampNeg) then
          ao_let (ao_u p31.2 j30 p31.1.toNatClampNeg (p31.2 j22 x1.toNatClampNeg)) fun M34 =>
          ao_let (ao_u M34 j4 x1.toNatClampNeg (2 : Int32)) fun M35 =>
          (ρ.1 r0 38).bind fun j36 =>
          if ρ.2.1 j36 = 0 then
          if ¬ (x1 < 0 ∨ ρ.2.2.1 j36 ≤ x1.toNatClampNeg) then
          ao_let (ao_u M35 j36 x1.toNatClampNeg (M35 r0 26)) fun M39 =>
          (ρ.1 r0 41).bind fun j40 =>
          if ρ.2.1 j40 = 0 then
          if ¬ (x1 < 0 ∨ ρ.2.2.1 j40 ≤ x1.toNatClampNeg) then
          ao_let (ao_u M39 j40 x1.toNatClampNeg (M39 r0 63)) fun M43 =>
          ao_let (ao_u M43 r0 63 ((M43 r0 63) + (1 : Int32))) fun M44 =>
          (ρ.1 r0 42).bind fun j45 =>
          if ρ.2.1 j45 = 0 then
          if ¬ (x1 < 0 ∨ ρ.2.2.1 j45 ≤ x1.toNatClampNeg) then
          ao_let (ao_u M44 j45 x1.toNatClampNeg (M44 r0 65)) fun M48 =>
          some ((0 : Int32), M48)
          else none
          else none
          else none
          else none
          else none
          else none
          else none
          else none
          else none
          else none
          else none
          else none
          else none
          else none
        else
          some ((4 : Int32), p14.2)
      else none
      else none
      else none
    else if pc = 172 then
      fX12_beginBlock n 177 r0 x1 x2 x3 x4 x5 0 (1 : Int32) 0 0 M ρ
    else if pc = 177 then
      if ρ.2.1 r0 = 22 then
      (ρ.1 r0 43).bind fun j50 =>
      (ρ.1 r0 35).bind fun j51 =>
      if ρ.2.1 j51 = 0 then
      if ¬ (x1 < 0 ∨ ρ.2.2.1 j51 ≤ x1.toNatClampNeg) then
      (gX12_level r0 x1 (M j51 x1.toNatClampNeg) M ρ).bind fun p54 =>
      if s0 = 0 then
        fX12_beginBlock n 209 r0 x1 x2 x3 x4 x5 s0 (-1 : Int32) p54.1 j50 p54.2 ρ
      else
        (ρ.1 r0 34).bind fun j56 =>
        if ρ.2.1 j56 = 0 then
        if ¬ (x1 < 0 ∨ ρ.2.2.1 j56 ≤ x1.toNatClampNeg) then
        fX12_beginBlock n 209 r0 x1 x2 x3 x4 x5 s0 (p54.2 j56 x1.toNatClampNeg) p54.1 j50 p54.2 ρ
        else none
        else none
      else none
      else none
      else none
    else if pc = 209 then
      if ρ.2.1 q2 = 0 then
      if ¬ (s1 < 0 ∨ ρ.2.2.1 q2 ≤ s1.toNatClampNeg) then
      ao_let (ao_u M q2 s1.toNatClampNeg s0) fun M61 =>
      if ρ.2.1 r0 = 22 then
      (ρ.1 r0 35).bind fun j63 =>
      if ρ.2.1 j63 = 0 then
      if ¬ (x1 < 0 ∨ ρ.2.2.1 j63 ≤ x1.toNatClampNeg) then
      ao_let (ao_u M61 j63 x1.toNatClampNeg ((M61 j63 x1.toNatClampNeg) + (1 : Int32))) fun M66 =>
      if x6 = 0 then
        some ((-1 : Int32), M66)
      else
        (gX12_openLevel n r0 x1 x5 x3 M66 ρ).bind fun p68 =>
        some ((-1 : Int32), p68)
      else none
      else none
      else none
      else none
      else none
    else none
def gX12_beginBlock (n : Nat) (r0 : Nat) (x1 : Int32) (x2 : Int32) (x3 : Int32) (M : ao_M) (ρ : ao_H) : Option (Int32 × ao_M) := fX12_beginBlock n 0 r0 x1 x2 x3 0 0 0 0 0 0 M ρ
set_option maxRecDepth 100000 in
set_option maxHeartbeats 4000000 in
theorem wX12_beginBlock {Γ : ao_C} {ρ : ao_H} (d : Nat) (hd : 3 ≤ d) : ∀ n : Nat, (∀ (r0 : Nat) (x1 : Int32) (x2 : Int32) (x3 : Int32) (M : ao_M) (y : Int32 × ao_M), fX12_beginBlock n 0 r0 x1 x2 x3 0 0 0 0 0 0 M ρ = some y → ao_W Γ uX12_beginBlock (ao_rm d 0 0) (ao_Q Γ (ao_PI ρ y) 0 0) 0 0 0 [some (.ref (Γ.2.2.2 + r0)), some (.int x1), some (.int x2), some (.int x3), none, none, none] [] (M, ρ)) ∧ (∀ (r0 : Nat) (x1 : Int32) (x2 : Int32) (x3 : Int32) (s0 : Int32) (M : ao_M) (y : Int32 × ao_M), fX12_beginBlock n 12 r0 x1 x2 x3 0 0 0 s0 0 0 M ρ = some y → ao_W Γ uX12_beginBlock (ao_rm d 0 0) (ao_Q Γ (ao_PI ρ y) 0 0) 0 0 12 [some (.ref (Γ.2.2.2 + r0)), some (.int x1), some (.int x2), some (.int x3), none, none, none] [.int s0] (M, ρ)) ∧ (∀ (r0 : Nat) (x1 : Int32) (x2 : Int32) (x3 : Int32) (x4 : Int32) (x5 : Int32) (M : ao_M) (y : Int32 × ao_M), fX12_beginBlock n 172 r0 x1 x2 x3 x4 x5 0 0 0 0 M ρ = some y → ao_W Γ uX12_beginBlock (ao_rm d 0 0) (ao_Q Γ (ao_PI ρ y) 0 0) 0 0 172 [some (.ref (Γ.2.2.2 + r0)), some (.int x1), some (.int x2), some (.int x3), some (.int x4), some (.int x5), none] [] (M, ρ)) ∧ (∀ (r0 : Nat) (x1 : Int32) (x2 : Int32) (x3 : Int32) (x4 : Int32) (x5 : Int32) (s0 : Int32) (M : ao_M) (y : Int32 × ao_M), fX12_beginBlock n 177 r0 x1 x2 x3 x4 x5 0 s0 0 0 M ρ = some y → ao_W Γ uX12_beginBlock (ao_rm d 0 0) (ao_Q Γ (ao_PI ρ y) 0 0) 0 0 177 [some (.ref (Γ.2.2.2 + r0)), some (.int x1), some (.int x2), some (.int x3), some (.int x4), some (.int x5), none] [.int s0] (M, ρ)) ∧ (∀ (r0 : Nat) (x1 : Int32) (x2 : Int32) (x3 : Int32) (x4 : Int32) (x5 : Int32) (x6 : Int32) (s0 : Int32) (s1 : Int32) (q2 : Nat) (M : ao_M) (y : Int32 × ao_M), fX12_beginBlock n 209 r0 x1 x2 x3 x4 x5 x6 s0 s1 q2 M ρ = some y → ao_W Γ uX12_beginBlock (ao_rm d 0 0) (ao_Q Γ (ao_PI ρ y) 0 0) 0 0 209 [some (.ref (Γ.2.2.2 + r0)), some (.int x1), some (.int x2), some (.int x3), some (.int x4), some (.int x5), some (.int x6)] [.int s0, .int s1, .ref (Γ.2.2.2 + q2)] (M, ρ)) := by
  intro n
  induction n with
  | zero => exact ⟨fun _ _ _ _ _ _ h => ao_no h, fun _ _ _ _ _ _ _ h => ao_no h, fun _ _ _ _ _ _ _ _ h => ao_no h, fun _ _ _ _ _ _ _ _ _ h => ao_no h, fun _ _ _ _ _ _ _ _ _ _ _ _ h => ao_no h⟩
  | succ n ih =>
    refine ⟨?_, ?_, ?_, ?_, ?_⟩
    · intro r0 x1 x2 x3 M y h
      replace h := ao_ifT h rfl
      refine ao_iload_n 2 dX12_beginBlock_0 rfl rfl ?_
      refine ao_iconst (v := 2) dX12_beginBlock_1 (by decide) ?_
      refine ao_irem dX12_beginBlock_2 (by decide) ?_
      refine ao_iconst (v := 1) dX12_beginBlock_3 (by decide) ?_
      refine ao_icmp_ne 11 dX12_beginBlock_4 (by decide) (fun c1 => ?_) (fun c1 => ?_)
      · replace h := ao_ifF h c1
        refine ao_iconst (v := 0) dX12_beginBlock_11 (by decide) ?_
        exact ih.2.1 r0 x1 x2 x3 (0 : Int32) M _ h
      · replace h := ao_ifT h c1
        refine ao_iconst (v := 1) dX12_beginBlock_7 (by decide) ?_
        refine ao_goto 12 dX12_beginBlock_8 (by decide) ?_
        exact ih.2.1 r0 x1 x2 x3 (1 : Int32) M _ h
    · intro r0 x1 x2 x3 s0 M y h
      replace h := ao_ifF h (by decide)
      replace h := ao_ifT h rfl
      refine ao_istore 4 (lo' := [some (.ref (Γ.2.2.2 + r0)), some (.int x1), some (.int x2), some (.int x3), some (.int s0), none, none]) dX12_beginBlock_12 (Nat.le_of_ble_eq_true rfl) rfl ?_
      refine ao_iload_n 2 dX12_beginBlock_14 rfl rfl ?_
      refine ao_iconst (v := 2) dX12_beginBlock_15 (by decide) ?_
      refine ao_idiv dX12_beginBlock_16 (by decide) ?_
      refine ao_iconst (v := 1) dX12_beginBlock_17 (by decide) ?_
      refine ao_isub dX12_beginBlock_18 ?_
      refine an_topi (fun v2 hv2 => ?_)
      replace h := ao_letD h hv2
      refine ao_istore 5 (lo' := [some (.ref (Γ.2.2.2 + r0)), some (.int x1), some (.int x2), some (.int x3), some (.int s0), some (.int v2), none]) dX12_beginBlock_19 (Nat.le_of_ble_eq_true rfl) rfl ?_
      refine ao_aload_n 0 dX12_beginBlock_21 rfl rfl ?_
      obtain ⟨hk3, h⟩ := ao_some h
      obtain ⟨j4, hj4, h⟩ := ao_bind h
      refine an_getR r0 12 29 (q := (RX12, TX12, 83)) dX12_beginBlock_22 rfl hk3 (Nat.le_of_ble_eq_true rfl) rfl lf_X12_187 hj4 ?_
      refine ao_iload_n 1 dX12_beginBlock_25 rfl rfl ?_
      obtain ⟨hk5, h⟩ := ao_some h
      obtain ⟨hb6, h⟩ := ao_some h
      refine an_iaload j4 dX12_beginBlock_26 hk5 hb6 ?_
      refine ao_iconst (v := 2) dX12_beginBlock_27 (by decide) ?_
      refine ao_icmp_eq 152 dX12_beginBlock_28 (by decide) (fun c7 => ?_) (fun c7 => ?_)
      · replace h := ao_ifT h c7
        refine ao_aload_n 0 dX12_beginBlock_152 rfl rfl ?_
        obtain ⟨j8, hj8, h⟩ := ao_bind h
        refine an_getR r0 12 30 (q := (RX12, TX12, 83)) dX12_beginBlock_153 rfl hk3 (Nat.le_of_ble_eq_true rfl) rfl lf_X12_190 hj8 ?_
        refine ao_iload_n 1 dX12_beginBlock_156 rfl rfl ?_
        refine ao_dup2 dX12_beginBlock_157 rfl rfl ?_
        obtain ⟨hk9, h⟩ := ao_some h
        obtain ⟨hb10, h⟩ := ao_some h
        refine an_iaload j8 dX12_beginBlock_158 hk9 hb10 ?_
        refine ao_iconst (v := 1) dX12_beginBlock_159 (by decide) ?_
        refine ao_iadd dX12_beginBlock_160 ?_
        refine an_iastore j8 dX12_beginBlock_161 hk9 hb10 (fun M11 hM11 => ?_)
        replace h := ao_letD h hM11
        refine ao_iload 4 dX12_beginBlock_162 rfl ?_
        refine ao_if_eq 172 dX12_beginBlock_164 (by decide) (fun c12 => ?_) (fun c12 => ?_)
        · replace h := ao_ifT h c12
          exact ih.2.2.1 r0 x1 x2 x3 s0 v2 M11 _ h
        · replace h := ao_ifF h c12
          refine ao_iload 5 dX12_beginBlock_167 rfl ?_
          refine ao_if_lt 176 dX12_beginBlock_169 (by decide) (fun c13 => ?_) (fun c13 => ?_)
          · replace h := ao_ifT h c13
            refine ao_iconst (v := 0) dX12_beginBlock_176 (by decide) ?_
            exact ih.2.2.2.1 r0 x1 x2 x3 s0 v2 (0 : Int32) M11 _ h
          · replace h := ao_ifF h c13
            exact ih.2.2.1 r0 x1 x2 x3 s0 v2 M11 _ h
      · replace h := ao_ifF h c7
        refine ao_aload_n 0 dX12_beginBlock_31 rfl rfl ?_
        refine ao_iload_n 1 dX12_beginBlock_32 rfl rfl ?_
        obtain ⟨p14, hp14, h⟩ := ao_bind h
        refine an_callVi r0 12 (q := (RX12, TX12, 83)) [.int x1] (aX12_isBusy (d - 1) (by omega) _ r0 x1 M ρ hp14) dX12_beginBlock_33 lc_X12_431 li_X12_isBusy ls_X12_isBusy rfl hk3 rfl rfl (Nat.le_of_ble_eq_true rfl) (ao_hR (by omega) (by decide)) ?_
        refine ao_if_eq 41 dX12_beginBlock_36 (by decide) (fun c15 => ?_) (fun c15 => ?_)
        · replace h := ao_ifT h c15
          refine ao_aload_n 0 dX12_beginBlock_41 rfl rfl ?_
          obtain ⟨j16, hj16, h⟩ := ao_bind h
          refine an_getR r0 12 30 (q := (RX12, TX12, 83)) dX12_beginBlock_42 rfl hk3 (Nat.le_of_ble_eq_true rfl) rfl lf_X12_190 hj16 ?_
          refine ao_iload_n 1 dX12_beginBlock_45 rfl rfl ?_
          refine ao_dup2 dX12_beginBlock_46 rfl rfl ?_
          obtain ⟨hk17, h⟩ := ao_some h
          obtain ⟨hb18, h⟩ := ao_some h
          refine an_iaload j16 dX12_beginBlock_47 hk17 hb18 ?_
          refine ao_iconst (v := 1) dX12_beginBlock_48 (by decide) ?_
          refine ao_iadd dX12_beginBlock_49 ?_
          refine an_iastore j16 dX12_beginBlock_50 hk17 hb18 (fun M19 hM19 => ?_)
          replace h := ao_letD h hM19
          refine ao_aload_n 0 dX12_beginBlock_51 rfl rfl ?_
          refine ao_iload_n 1 dX12_beginBlock_52 rfl rfl ?_
          refine ao_iload 5 dX12_beginBlock_53 rfl ?_
          refine ao_iload_n 3 dX12_beginBlock_55 rfl rfl ?_
          obtain ⟨p20, hp20, h⟩ := ao_bind h
          refine an_callVv r0 12 (q := (RX12, TX12, 83)) [.int x1, .int v2, .int x3] (aX12_openLevel (d - 1) (by omega) _ r0 x1 v2 x3 M19 ρ hp20) dX12_beginBlock_56 lc_X12_434 li_X12_openLevel ls_X12_openLevel rfl hk3 rfl rfl (Nat.le_of_ble_eq_true rfl) (ao_hR (by omega) (by decide)) ?_
          refine ao_aload_n 0 dX12_beginBlock_59 rfl rfl ?_
          obtain ⟨j21, hj21, h⟩ := ao_bind h
          refine an_getR r0 12 43 (q := (RX12, TX12, 83)) dX12_beginBlock_60 rfl hk3 (Nat.le_of_ble_eq_true rfl) rfl lf_X12_229 hj21 ?_
          refine ao_aload_n 0 dX12_beginBlock_63 rfl rfl ?_
          refine ao_iload_n 1 dX12_beginBlock_64 rfl rfl ?_
          refine ao_aload_n 0 dX12_beginBlock_65 rfl rfl ?_
          obtain ⟨j22, hj22, h⟩ := ao_bind h
          refine an_getR r0 12 35 (q := (RX12, TX12, 83)) dX12_beginBlock_66 rfl hk3 (Nat.le_of_ble_eq_true rfl) rfl lf_X12_205 hj22 ?_
          refine ao_iload_n 1 dX12_beginBlock_69 rfl rfl ?_
          obtain ⟨hk23, h⟩ := ao_some h
          obtain ⟨hb24, h⟩ := ao_some h
          refine an_iaload j22 dX12_beginBlock_70 hk23 hb24 ?_
          obtain ⟨p25, hp25, h⟩ := ao_bind h
          refine an_callVi r0 12 (q := (RX12, TX12, 83)) [.int x1, .int (p20 j22 x1.toNatClampNeg)] (aX12_level (d - 1) (by omega) r0 x1 (p20 j22 x1.toNatClampNeg) p20 ρ hp25) dX12_beginBlock_71 lc_X12_360 li_X12_level ls_X12_level rfl hk3 rfl rfl (Nat.le_of_ble_eq_true rfl) (ao_hR (by omega) (by decide)) ?_
          refine ao_iconst (v := 0) dX12_beginBlock_74 (by decide) ?_
          obtain ⟨hk26, h⟩ := ao_some h
          obtain ⟨hb27, h⟩ := ao_some h
          refine an_iastore j21 dX12_beginBlock_75 hk26 hb27 (fun M28 hM28 => ?_)
          replace h := ao_letD h hM28
          refine ao_aload_n 0 dX12_beginBlock_76 rfl rfl ?_
          refine an_getR r0 12 35 (q := (RX12, TX12, 83)) dX12_beginBlock_77 rfl hk3 (Nat.le_of_ble_eq_true rfl) rfl lf_X12_205 hj22 ?_
          refine ao_iload_n 1 dX12_beginBlock_80 rfl rfl ?_
          refine ao_dup2 dX12_beginBlock_81 rfl rfl ?_
          refine an_iaload j22 dX12_beginBlock_82 hk23 hb24 ?_
          refine ao_iconst (v := 1) dX12_beginBlock_83 (by decide) ?_
          refine ao_iadd dX12_beginBlock_84 ?_
          refine an_iastore j22 dX12_beginBlock_85 hk23 hb24 (fun M29 hM29 => ?_)
          replace h := ao_letD h hM29
          refine ao_aload_n 0 dX12_beginBlock_86 rfl rfl ?_
          obtain ⟨j30, hj30, h⟩ := ao_bind h
          refine an_getR r0 12 51 (q := (RX12, TX12, 83)) dX12_beginBlock_87 rfl hk3 (Nat.le_of_ble_eq_true rfl) rfl lf_X12_253 hj30 ?_
          refine ao_aload_n 0 dX12_beginBlock_90 rfl rfl ?_
          refine ao_iload_n 1 dX12_beginBlock_91 rfl rfl ?_
          refine ao_iconst (v := 0) dX12_beginBlock_92 (by decide) ?_
          obtain ⟨p31, hp31, h⟩ := ao_bind h
          refine an_callVi r0 12 (q := (RX12, TX12, 83)) [.int x1, .int (0 : Int32)] (aX12_level (d - 1) (by omega) r0 x1 (0 : Int32) M29 ρ hp31) dX12_beginBlock_93 lc_X12_360 li_X12_level ls_X12_level rfl hk3 rfl rfl (Nat.le_of_ble_eq_true rfl) (ao_hR (by omega) (by decide)) ?_
          refine ao_aload_n 0 dX12_beginBlock_96 rfl rfl ?_
          refine an_getR r0 12 35 (q := (RX12, TX12, 83)) dX12_beginBlock_97 rfl hk3 (Nat.le_of_ble_eq_true rfl) rfl lf_X12_205 hj22 ?_
          refine ao_iload_n 1 dX12_beginBlock_100 rfl rfl ?_
          refine an_iaload j22 dX12_beginBlock_101 hk23 hb24 ?_
          obtain ⟨hk32, h⟩ := ao_some h
          obtain ⟨hb33, h⟩ := ao_some h
          refine an_iastore j30 dX12_beginBlock_102 hk32 hb33 (fun M34 hM34 => ?_)
          replace h := ao_letD h hM34
          refine ao_aload_n 0 dX12_beginBlock_103 rfl rfl ?_
          refine an_getR r0 12 29 (q := (RX12, TX12, 83)) dX12_beginBlock_104 rfl hk3 (Nat.le_of_ble_eq_true rfl) rfl lf_X12_187 hj4 ?_
          refine ao_iload_n 1 dX12_beginBlock_107 rfl rfl ?_
          refine ao_iconst (v := 2) dX12_beginBlock_108 (by decide) ?_
          refine an_iastore j4 dX12_beginBlock_109 hk5 hb6 (fun M35 hM35 => ?_)
          replace h := ao_letD h hM35
          refine ao_aload_n 0 dX12_beginBlock_110 rfl rfl ?_
          obtain ⟨j36, hj36, h⟩ := ao_bind h
          refine an_getR r0 12 38 (q := (RX12, TX12, 83)) dX12_beginBlock_111 rfl hk3 (Nat.le_of_ble_eq_true rfl) rfl lf_X12_214 hj36 ?_
          refine ao_iload_n 1 dX12_beginBlock_114 rfl rfl ?_
          refine ao_aload_n 0 dX12_beginBlock_115 rfl rfl ?_
          refine an_getI r0 12 26 (q := (RX12, TX12, 83)) dX12_beginBlock_116 rfl hk3 (Nat.le_of_ble_eq_true rfl) rfl lf_X12_148 ?_
          obtain ⟨hk37, h⟩ := ao_some h
          obtain ⟨hb38, h⟩ := ao_some h
          refine an_iastore j36 dX12_beginBlock_119 hk37 hb38 (fun M39 hM39 => ?_)
          replace h := ao_letD h hM39
          refine ao_aload_n 0 dX12_beginBlock_120 rfl rfl ?_
          obtain ⟨j40, hj40, h⟩ := ao_bind h
          refine an_getR r0 12 41 (q := (RX12, TX12, 83)) dX12_beginBlock_121 rfl hk3 (Nat.le_of_ble_eq_true rfl) rfl lf_X12_223 hj40 ?_
          refine ao_iload_n 1 dX12_beginBlock_124 rfl rfl ?_
          refine ao_aload_n 0 dX12_beginBlock_125 rfl rfl ?_
          refine an_getI r0 12 63 (q := (RX12, TX12, 83)) dX12_beginBlock_126 rfl hk3 (Nat.le_of_ble_eq_true rfl) rfl lf_X12_344 ?_
          obtain ⟨hk41, h⟩ := ao_some h
          obtain ⟨hb42, h⟩ := ao_some h
          refine an_iastore j40 dX12_beginBlock_129 hk41 hb42 (fun M43 hM43 => ?_)
          replace h := ao_letD h hM43
          refine ao_aload_n 0 dX12_beginBlock_130 rfl rfl ?_
          refine ao_dup dX12_beginBlock_131 rfl ?_
          refine an_getI r0 12 63 (q := (RX12, TX12, 83)) dX12_beginBlock_132 rfl hk3 (Nat.le_of_ble_eq_true rfl) rfl lf_X12_344 ?_
          refine ao_iconst (v := 1) dX12_beginBlock_135 (by decide) ?_
          refine ao_iadd dX12_beginBlock_136 ?_
          refine an_putI r0 12 63 (q := (RX12, TX12, 83)) dX12_beginBlock_137 rfl hk3 (Nat.le_of_ble_eq_true rfl) lf_X12_344 rfl rfl rfl rfl (fun M44 hM44 => ?_)
          replace h := ao_letD h hM44
          refine ao_aload_n 0 dX12_beginBlock_140 rfl rfl ?_
          obtain ⟨j45, hj45, h⟩ := ao_bind h
          refine an_getR r0 12 42 (q := (RX12, TX12, 83)) dX12_beginBlock_141 rfl hk3 (Nat.le_of_ble_eq_true rfl) rfl lf_X12_226 hj45 ?_
          refine ao_iload_n 1 dX12_beginBlock_144 rfl rfl ?_
          refine ao_aload_n 0 dX12_beginBlock_145 rfl rfl ?_
          refine an_getI r0 12 65 (q := (RX12, TX12, 83)) dX12_beginBlock_146 rfl hk3 (Nat.le_of_ble_eq_true rfl) rfl lf_X12_341 ?_
          obtain ⟨hk46, h⟩ := ao_some h
          obtain ⟨hb47, h⟩ := ao_some h
          refine an_iastore j45 dX12_beginBlock_149 hk46 hb47 (fun M48 hM48 => ?_)
          replace h := ao_letD h hM48
          refine ao_iconst (v := 0) dX12_beginBlock_150 (by decide) ?_
          cases h
          exact ao_ireturn dX12_beginBlock_151 rfl rfl ⟨rfl, rfl⟩
        · replace h := ao_ifF h c15
          refine ao_iconst (v := 4) dX12_beginBlock_39 (by decide) ?_
          cases h
          exact ao_ireturn dX12_beginBlock_40 rfl rfl ⟨rfl, rfl⟩
    · intro r0 x1 x2 x3 x4 x5 M y h
      replace h := ao_ifF h (by decide)
      replace h := ao_ifF h (by decide)
      replace h := ao_ifT h rfl
      refine ao_iconst (v := 1) dX12_beginBlock_172 (by decide) ?_
      refine ao_goto 177 dX12_beginBlock_173 (by decide) ?_
      exact ih.2.2.2.1 r0 x1 x2 x3 x4 x5 (1 : Int32) M _ h
    · intro r0 x1 x2 x3 x4 x5 s0 M y h
      replace h := ao_ifF h (by decide)
      replace h := ao_ifF h (by decide)
      replace h := ao_ifF h (by decide)
      replace h := ao_ifT h rfl
      refine ao_istore 6 (lo' := [some (.ref (Γ.2.2.2 + r0)), some (.int x1), some (.int x2), some (.int x3), some (.int x4), some (.int x5), some (.int s0)]) dX12_beginBlock_177 (Nat.le_of_ble_eq_true rfl) rfl ?_
      refine ao_aload_n 0 dX12_beginBlock_179 rfl rfl ?_
      obtain ⟨hk49, h⟩ := ao_some h
      obtain ⟨j50, hj50, h⟩ := ao_bind h
      refine an_getR r0 12 43 (q := (RX12, TX12, 83)) dX12_beginBlock_180 rfl hk49 (Nat.le_of_ble_eq_true rfl) rfl lf_X12_229 hj50 ?_
      refine ao_aload_n 0 dX12_beginBlock_183 rfl rfl ?_
      refine ao_iload_n 1 dX12_beginBlock_184 rfl rfl ?_
      refine ao_aload_n 0 dX12_beginBlock_185 rfl rfl ?_
      obtain ⟨j51, hj51, h⟩ := ao_bind h
      refine an_getR r0 12 35 (q := (RX12, TX12, 83)) dX12_beginBlock_186 rfl hk49 (Nat.le_of_ble_eq_true rfl) rfl lf_X12_205 hj51 ?_
      refine ao_iload_n 1 dX12_beginBlock_189 rfl rfl ?_
      obtain ⟨hk52, h⟩ := ao_some h
      obtain ⟨hb53, h⟩ := ao_some h
      refine an_iaload j51 dX12_beginBlock_190 hk52 hb53 ?_
      obtain ⟨p54, hp54, h⟩ := ao_bind h
      refine an_callVi r0 12 (q := (RX12, TX12, 83)) [.int x1, .int (M j51 x1.toNatClampNeg)] (aX12_level (d - 1) (by omega) r0 x1 (M j51 x1.toNatClampNeg) M ρ hp54) dX12_beginBlock_191 lc_X12_360 li_X12_level ls_X12_level rfl hk49 rfl rfl (Nat.le_of_ble_eq_true rfl) (ao_hR (by omega) (by decide)) ?_
      refine ao_iload 6 dX12_beginBlock_194 rfl ?_
      refine ao_if_eq 208 dX12_beginBlock_196 (by decide) (fun c55 => ?_) (fun c55 => ?_)
      · replace h := ao_ifT h c55
        refine ao_iconst (v := (-1)) dX12_beginBlock_208 (by decide) ?_
        exact ih.2.2.2.2 r0 x1 x2 x3 x4 x5 s0 (-1 : Int32) p54.1 j50 p54.2 _ h
      · replace h := ao_ifF h c55
        refine ao_aload_n 0 dX12_beginBlock_199 rfl rfl ?_
        obtain ⟨j56, hj56, h⟩ := ao_bind h
        refine an_getR r0 12 34 (q := (RX12, TX12, 83)) dX12_beginBlock_200 rfl hk49 (Nat.le_of_ble_eq_true rfl) rfl lf_X12_202 hj56 ?_
        refine ao_iload_n 1 dX12_beginBlock_203 rfl rfl ?_
        obtain ⟨hk57, h⟩ := ao_some h
        obtain ⟨hb58, h⟩ := ao_some h
        refine an_iaload j56 dX12_beginBlock_204 hk57 hb58 ?_
        refine ao_goto 209 dX12_beginBlock_205 (by decide) ?_
        exact ih.2.2.2.2 r0 x1 x2 x3 x4 x5 s0 (p54.2 j56 x1.toNatClampNeg) p54.1 j50 p54.2 _ h
    · intro r0 x1 x2 x3 x4 x5 x6 s0 s1 q2 M y h
      replace h := ao_ifF h (by decide)
      replace h := ao_ifF h (by decide)
      replace h := ao_ifF h (by decide)
      replace h := ao_ifF h (by decide)
      replace h := ao_ifT h rfl
      obtain ⟨hk59, h⟩ := ao_some h
      obtain ⟨hb60, h⟩ := ao_some h
      refine an_iastore q2 dX12_beginBlock_209 hk59 hb60 (fun M61 hM61 => ?_)
      replace h := ao_letD h hM61
      refine ao_aload_n 0 dX12_beginBlock_210 rfl rfl ?_
      obtain ⟨hk62, h⟩ := ao_some h
      obtain ⟨j63, hj63, h⟩ := ao_bind h
      refine an_getR r0 12 35 (q := (RX12, TX12, 83)) dX12_beginBlock_211 rfl hk62 (Nat.le_of_ble_eq_true rfl) rfl lf_X12_205 hj63 ?_
      refine ao_iload_n 1 dX12_beginBlock_214 rfl rfl ?_
      refine ao_dup2 dX12_beginBlock_215 rfl rfl ?_
      obtain ⟨hk64, h⟩ := ao_some h
      obtain ⟨hb65, h⟩ := ao_some h
      refine an_iaload j63 dX12_beginBlock_216 hk64 hb65 ?_
      refine ao_iconst (v := 1) dX12_beginBlock_217 (by decide) ?_
      refine ao_iadd dX12_beginBlock_218 ?_
      refine an_iastore j63 dX12_beginBlock_219 hk64 hb65 (fun M66 hM66 => ?_)
      replace h := ao_letD h hM66
      refine ao_iload 6 dX12_beginBlock_220 rfl ?_
      refine ao_if_eq 233 dX12_beginBlock_222 (by decide) (fun c67 => ?_) (fun c67 => ?_)
      · replace h := ao_ifT h c67
        refine ao_iconst (v := (-1)) dX12_beginBlock_233 (by decide) ?_
        cases h
        exact ao_ireturn dX12_beginBlock_234 rfl rfl ⟨rfl, rfl⟩
      · replace h := ao_ifF h c67
        refine ao_aload_n 0 dX12_beginBlock_225 rfl rfl ?_
        refine ao_iload_n 1 dX12_beginBlock_226 rfl rfl ?_
        refine ao_iload 5 dX12_beginBlock_227 rfl ?_
        refine ao_iload_n 3 dX12_beginBlock_229 rfl rfl ?_
        obtain ⟨p68, hp68, h⟩ := ao_bind h
        refine an_callVv r0 12 (q := (RX12, TX12, 83)) [.int x1, .int x5, .int x3] (aX12_openLevel (d - 1) (by omega) _ r0 x1 x5 x3 M66 ρ hp68) dX12_beginBlock_230 lc_X12_434 li_X12_openLevel ls_X12_openLevel rfl hk62 rfl rfl (Nat.le_of_ble_eq_true rfl) (ao_hR (by omega) (by decide)) ?_
        refine ao_iconst (v := (-1)) dX12_beginBlock_233 (by decide) ?_
        cases h
        exact ao_ireturn dX12_beginBlock_234 rfl rfl ⟨rfl, rfl⟩
set_option maxRecDepth 100000 in
set_option maxHeartbeats 4000000 in
theorem aX12_beginBlock {Γ : ao_C} (d : Nat) (hd : 3 ≤ d) (n : Nat) (r0 : Nat) (x1 : Int32) (x2 : Int32) (x3 : Int32) (M : ao_M) (ρ : ao_H) {y : Int32 × ao_M} (h : gX12_beginBlock n r0 x1 x2 x3 M ρ = some y) : ao_A Γ uX12_beginBlock d 0 0 [.ref (Γ.2.2.2 + r0), .int x1, .int x2, .int x3] (M, ρ) (ao_PI ρ y) := by
  refine ao_of (by decide) (ao_cat1 (Nat.le_of_ble_eq_true rfl)) (Nat.le_of_ble_eq_true rfl) ?_
  show ao_W Γ uX12_beginBlock (ao_rm d 0 0) (ao_Q Γ (ao_PI ρ y) 0 0) 0 0 0 [some (.ref (Γ.2.2.2 + r0)), some (.int x1), some (.int x2), some (.int x3), none, none, none] [] (M, ρ)
  exact (wX12_beginBlock d hd n).1 r0 x1 x2 x3 M y h

abbrev uX12_hold : ao_Mi := (yX12_hold, cX12_hold, 3, none, [])
def gX12_hold (r0 : Nat) (x1 : Int32) (x2 : Int32) (M : ao_M) (ρ : ao_H) : Option (ao_M) :=
  if ρ.2.1 r0 = 22 then
  (ρ.1 r0 62).bind fun j2 =>
  if ρ.2.1 j2 = 0 then
  if ¬ (x1 < 0 ∨ ρ.2.2.1 j2 ≤ x1.toNatClampNeg) then
  if (M j2 x1.toNatClampNeg) = (200 : Int32) then
    some M
  else
    (ρ.1 r0 61).bind fun j6 =>
    if ρ.2.1 j6 = 0 then
    if ¬ (((x1 * (200 : Int32)) + (M j2 x1.toNatClampNeg)) < 0 ∨ ρ.2.2.1 j6 ≤ ((x1 * (200 : Int32)) + (M j2 x1.toNatClampNeg)).toNatClampNeg) then
    ao_let (ao_u M j6 ((x1 * (200 : Int32)) + (M j2 x1.toNatClampNeg)).toNatClampNeg x2) fun M9 =>
    ao_let (ao_u M9 j2 x1.toNatClampNeg ((M9 j2 x1.toNatClampNeg) + (1 : Int32))) fun M10 =>
    some M10
    else none
    else none
  else none
  else none
  else none
set_option maxRecDepth 100000 in
set_option maxHeartbeats 4000000 in
theorem aX12_hold {Γ : ao_C} (d : Nat) (hd : 0 ≤ d) (r0 : Nat) (x1 : Int32) (x2 : Int32) (M : ao_M) (ρ : ao_H) {y : ao_M} (h : gX12_hold r0 x1 x2 M ρ = some y) : ao_A Γ uX12_hold d 0 0 [.ref (Γ.2.2.2 + r0), .int x1, .int x2] (M, ρ) (ao_PV ρ y) := by
  refine ao_of (by decide) (ao_cat1 (Nat.le_of_ble_eq_true rfl)) (Nat.le_of_ble_eq_true rfl) ?_
  show ao_W Γ uX12_hold (ao_rm d 0 0) (ao_Q Γ (ao_PV ρ y) 0 0) 0 0 0 [some (.ref (Γ.2.2.2 + r0)), some (.int x1), some (.int x2)] [] (M, ρ)
  unfold gX12_hold at h
  refine ao_aload_n 0 dX12_hold_0 rfl rfl ?_
  obtain ⟨hk1, h⟩ := ao_some h
  obtain ⟨j2, hj2, h⟩ := ao_bind h
  refine an_getR r0 12 62 (q := (RX12, TX12, 83)) dX12_hold_1 rfl hk1 (Nat.le_of_ble_eq_true rfl) rfl lf_X12_287 hj2 ?_
  refine ao_iload_n 1 dX12_hold_4 rfl rfl ?_
  obtain ⟨hk3, h⟩ := ao_some h
  obtain ⟨hb4, h⟩ := ao_some h
  refine an_iaload j2 dX12_hold_5 hk3 hb4 ?_
  refine ao_sipush (v := 200) dX12_hold_6 (by decide) ?_
  refine ao_icmp_ne 13 dX12_hold_9 (by decide) (fun c5 => ?_) (fun c5 => ?_)
  · replace h := ao_ifF h c5
    refine ao_aload_n 0 dX12_hold_13 rfl rfl ?_
    obtain ⟨j6, hj6, h⟩ := ao_bind h
    refine an_getR r0 12 61 (q := (RX12, TX12, 83)) dX12_hold_14 rfl hk1 (Nat.le_of_ble_eq_true rfl) rfl lf_X12_284 hj6 ?_
    refine ao_iload_n 1 dX12_hold_17 rfl rfl ?_
    refine ao_sipush (v := 200) dX12_hold_18 (by decide) ?_
    refine ao_imul dX12_hold_21 ?_
    refine ao_aload_n 0 dX12_hold_22 rfl rfl ?_
    refine an_getR r0 12 62 (q := (RX12, TX12, 83)) dX12_hold_23 rfl hk1 (Nat.le_of_ble_eq_true rfl) rfl lf_X12_287 hj2 ?_
    refine ao_iload_n 1 dX12_hold_26 rfl rfl ?_
    refine an_iaload j2 dX12_hold_27 hk3 hb4 ?_
    refine ao_iadd dX12_hold_28 ?_
    refine ao_iload_n 2 dX12_hold_29 rfl rfl ?_
    obtain ⟨hk7, h⟩ := ao_some h
    obtain ⟨hb8, h⟩ := ao_some h
    refine an_iastore j6 dX12_hold_30 hk7 hb8 (fun M9 hM9 => ?_)
    replace h := ao_letD h hM9
    refine ao_aload_n 0 dX12_hold_31 rfl rfl ?_
    refine an_getR r0 12 62 (q := (RX12, TX12, 83)) dX12_hold_32 rfl hk1 (Nat.le_of_ble_eq_true rfl) rfl lf_X12_287 hj2 ?_
    refine ao_iload_n 1 dX12_hold_35 rfl rfl ?_
    refine ao_dup2 dX12_hold_36 rfl rfl ?_
    refine an_iaload j2 dX12_hold_37 hk3 hb4 ?_
    refine ao_iconst (v := 1) dX12_hold_38 (by decide) ?_
    refine ao_iadd dX12_hold_39 ?_
    refine an_iastore j2 dX12_hold_40 hk3 hb4 (fun M10 hM10 => ?_)
    replace h := ao_letD h hM10
    cases h
    exact ao_return dX12_hold_41 rfl ⟨rfl, rfl⟩
  · replace h := ao_ifT h c5
    cases h
    exact ao_return dX12_hold_12 rfl ⟨rfl, rfl⟩

abbrev uX12_wakes : ao_Mi := (yX12_wakes, cX12_wakes, 4, (some .boolean), [])
def fX12_wakes : Nat → Nat → Nat → Int32 → Int32 → Int32 →  ao_M → ao_H → Option (Int32 × ao_M)
  | 0, _, _, _, _, _, _, _ => none
  | n + 1, pc, r0, x1, x2, x3, M, ρ =>
    if pc = 0 then
      fX12_wakes n 2 r0 x1 (0 : Int32) 0 M ρ
    else if pc = 2 then
      if (26 : Int32) ≤ x2 then
        some ((0 : Int32), M)
      else
        if ρ.2.1 r0 = 22 then
        (gX12_cell r0 x1 (0 : Int32) x2 M ρ).bind fun p3 =>
        ao_let p3.1 fun v4 =>
        (ρ.1 r0 55).bind fun j5 =>
        if ρ.2.1 j5 = 2 then
        if ¬ (v4 < 0 ∨ ρ.2.2.1 j5 ≤ v4.toNatClampNeg) then
        if (p3.2 j5 v4.toNatClampNeg) = 0 then
          fX12_wakes n 58 r0 x1 x2 v4 p3.2 ρ
        else
          (ρ.1 r0 17).bind fun j9 =>
          if ρ.2.1 j9 = 0 then
          if ¬ (x2 < 0 ∨ ρ.2.2.1 j9 ≤ x2.toNatClampNeg) then
          (ρ.1 r0 57).bind fun j12 =>
          if ρ.2.1 j12 = 0 then
          if ¬ (v4 < 0 ∨ ρ.2.2.1 j12 ≤ v4.toNatClampNeg) then
          if (p3.2 j9 x2.toNatClampNeg) = (p3.2 j12 v4.toNatClampNeg) then
            fX12_wakes n 58 r0 x1 x2 v4 p3.2 ρ
          else
            (gX12_isEager n r0 p3.2 ρ).bind fun p16 =>
            if p16.1 = 0 then
              some ((1 : Int32), p16.2)
            else
              (ρ.1 r0 19).bind fun j18 =>
              if ρ.2.1 j18 = 0 then
              if ¬ (x2 < 0 ∨ ρ.2.2.1 j18 ≤ x2.toNatClampNeg) then
              if 0 ≤ (p16.2 j18 x2.toNatClampNeg) then
                fX12_wakes n 58 r0 x1 x2 v4 p16.2 ρ
              else
                some ((1 : Int32), p16.2)
              else none
              else none
          else none
          else none
          else none
          else none
        else none
        else none
        else none
    else if pc = 58 then
      ao_let (x2 + (1 : Int32)) fun v22 =>
      fX12_wakes n 2 r0 x1 v22 0 M ρ
    else none
def gX12_wakes (n : Nat) (r0 : Nat) (x1 : Int32) (M : ao_M) (ρ : ao_H) : Option (Int32 × ao_M) := fX12_wakes n 0 r0 x1 0 0 M ρ
set_option maxRecDepth 100000 in
set_option maxHeartbeats 4000000 in
theorem wX12_wakes {Γ : ao_C} {ρ : ao_H} (d : Nat) (hd : 1 ≤ d) : ∀ n : Nat, (∀ (r0 : Nat) (x1 : Int32) (M : ao_M) (y : Int32 × ao_M), fX12_wakes n 0 r0 x1 0 0 M ρ = some y → ao_W Γ uX12_wakes (ao_rm d 0 0) (ao_Q Γ (ao_PI ρ y) 0 0) 0 0 0 [some (.ref (Γ.2.2.2 + r0)), some (.int x1), none, none] [] (M, ρ)) ∧ (∀ (r0 : Nat) (x1 : Int32) (x2 : Int32) (M : ao_M) (y : Int32 × ao_M), fX12_wakes n 2 r0 x1 x2 0 M ρ = some y → ao_W Γ uX12_wakes (ao_rm d 0 0) (ao_Q Γ (ao_PI ρ y) 0 0) 0 0 2 [some (.ref (Γ.2.2.2 + r0)), some (.int x1), some (.int x2), none] [] (M, ρ)) ∧ (∀ (r0 : Nat) (x1 : Int32) (x2 : Int32) (x3 : Int32) (M : ao_M) (y : Int32 × ao_M), fX12_wakes n 58 r0 x1 x2 x3 M ρ = some y → ao_W Γ uX12_wakes (ao_rm d 0 0) (ao_Q Γ (ao_PI ρ y) 0 0) 0 0 58 [some (.ref (Γ.2.2.2 + r0)), some (.int x1), some (.int x2), some (.int x3)] [] (M, ρ)) := by
  intro n
  induction n with
  | zero => exact ⟨fun _ _ _ _ h => ao_no h, fun _ _ _ _ _ h => ao_no h, fun _ _ _ _ _ _ h => ao_no h⟩
  | succ n ih =>
    refine ⟨?_, ?_, ?_⟩
    · intro r0 x1 M y h
      replace h := ao_ifT h rfl
      refine ao_iconst (v := 0) dX12_wakes_0 (by decide) ?_
      refine ao_istore_n 2 (lo' := [some (.ref (Γ.2.2.2 + r0)), some (.int x1), some (.int (0 : Int32)), none]) dX12_wakes_1 rfl (Nat.le_of_ble_eq_true rfl) rfl ?_
      exact ih.2.1 r0 x1 (0 : Int32) M _ h
    · intro r0 x1 x2 M y h
      replace h := ao_ifF h (by decide)
      replace h := ao_ifT h rfl
      refine ao_iload_n 2 dX12_wakes_2 rfl rfl ?_
      refine ao_bipush (v := 26) dX12_wakes_3 (by decide) ?_
      refine ao_icmp_ge 64 dX12_wakes_5 (by decide) (fun c1 => ?_) (fun c1 => ?_)
      · replace h := ao_ifT h c1
        refine ao_iconst (v := 0) dX12_wakes_64 (by decide) ?_
        cases h
        exact ao_ireturn dX12_wakes_65 rfl rfl ⟨rfl, rfl⟩
      · replace h := ao_ifF h c1
        refine ao_aload_n 0 dX12_wakes_8 rfl rfl ?_
        refine ao_iload_n 1 dX12_wakes_9 rfl rfl ?_
        refine ao_iconst (v := 0) dX12_wakes_10 (by decide) ?_
        refine ao_iload_n 2 dX12_wakes_11 rfl rfl ?_
        obtain ⟨hk2, h⟩ := ao_some h
        obtain ⟨p3, hp3, h⟩ := ao_bind h
        refine an_callVi r0 12 (q := (RX12, TX12, 83)) [.int x1, .int (0 : Int32), .int x2] (aX12_cell (d - 1) (by omega) r0 x1 (0 : Int32) x2 M ρ hp3) dX12_wakes_12 lc_X12_357 li_X12_cell ls_X12_cell rfl hk2 rfl rfl (Nat.le_of_ble_eq_true rfl) (ao_hR (by omega) (by decide)) ?_
        refine an_topi (fun v4 hv4 => ?_)
        replace h := ao_letD h hv4
        refine ao_istore_n 3 (lo' := [some (.ref (Γ.2.2.2 + r0)), some (.int x1), some (.int x2), some (.int v4)]) dX12_wakes_15 rfl (Nat.le_of_ble_eq_true rfl) rfl ?_
        refine ao_aload_n 0 dX12_wakes_16 rfl rfl ?_
        obtain ⟨j5, hj5, h⟩ := ao_bind h
        refine an_getR r0 12 55 (q := (RX12, TX12, 83)) dX12_wakes_17 rfl hk2 (Nat.le_of_ble_eq_true rfl) rfl lf_X12_266 hj5 ?_
        refine ao_iload_n 3 dX12_wakes_20 rfl rfl ?_
        obtain ⟨hk6, h⟩ := ao_some h
        obtain ⟨hb7, h⟩ := ao_some h
        refine an_zaload j5 dX12_wakes_21 hk6 hb7 ?_
        refine ao_if_eq 58 dX12_wakes_22 (by decide) (fun c8 => ?_) (fun c8 => ?_)
        · replace h := ao_ifT h c8
          exact ih.2.2 r0 x1 x2 v4 p3.2 _ h
        · replace h := ao_ifF h c8
          refine ao_aload_n 0 dX12_wakes_25 rfl rfl ?_
          obtain ⟨j9, hj9, h⟩ := ao_bind h
          refine an_getR r0 12 17 (q := (RX12, TX12, 83)) dX12_wakes_26 rfl hk2 (Nat.le_of_ble_eq_true rfl) rfl lf_X12_151 hj9 ?_
          refine ao_iload_n 2 dX12_wakes_29 rfl rfl ?_
          obtain ⟨hk10, h⟩ := ao_some h
          obtain ⟨hb11, h⟩ := ao_some h
          refine an_iaload j9 dX12_wakes_30 hk10 hb11 ?_
          refine ao_aload_n 0 dX12_wakes_31 rfl rfl ?_
          obtain ⟨j12, hj12, h⟩ := ao_bind h
          refine an_getR r0 12 57 (q := (RX12, TX12, 83)) dX12_wakes_32 rfl hk2 (Nat.le_of_ble_eq_true rfl) rfl lf_X12_272 hj12 ?_
          refine ao_iload_n 3 dX12_wakes_35 rfl rfl ?_
          obtain ⟨hk13, h⟩ := ao_some h
          obtain ⟨hb14, h⟩ := ao_some h
          refine an_iaload j12 dX12_wakes_36 hk13 hb14 ?_
          refine ao_icmp_eq 58 dX12_wakes_37 (by decide) (fun c15 => ?_) (fun c15 => ?_)
          · replace h := ao_ifT h c15
            exact ih.2.2 r0 x1 x2 v4 p3.2 _ h
          · replace h := ao_ifF h c15
            refine ao_aload_n 0 dX12_wakes_40 rfl rfl ?_
            obtain ⟨p16, hp16, h⟩ := ao_bind h
            refine an_callVi r0 12 (q := (RX12, TX12, 83)) [] (aX12_isEager (d - 1) (by omega) _ r0 p3.2 ρ hp16) dX12_wakes_41 lc_X12_369 li_X12_isEager ls_X12_isEager rfl hk2 rfl rfl (Nat.le_of_ble_eq_true rfl) (ao_hR (by omega) (by decide)) ?_
            refine ao_if_eq 56 dX12_wakes_44 (by decide) (fun c17 => ?_) (fun c17 => ?_)
            · replace h := ao_ifT h c17
              refine ao_iconst (v := 1) dX12_wakes_56 (by decide) ?_
              cases h
              exact ao_ireturn dX12_wakes_57 rfl rfl ⟨rfl, rfl⟩
            · replace h := ao_ifF h c17
              refine ao_aload_n 0 dX12_wakes_47 rfl rfl ?_
              obtain ⟨j18, hj18, h⟩ := ao_bind h
              refine an_getR r0 12 19 (q := (RX12, TX12, 83)) dX12_wakes_48 rfl hk2 (Nat.le_of_ble_eq_true rfl) rfl lf_X12_177 hj18 ?_
              refine ao_iload_n 2 dX12_wakes_51 rfl rfl ?_
              obtain ⟨hk19, h⟩ := ao_some h
              obtain ⟨hb20, h⟩ := ao_some h
              refine an_iaload j18 dX12_wakes_52 hk19 hb20 ?_
              refine ao_if_ge 58 dX12_wakes_53 (by decide) (fun c21 => ?_) (fun c21 => ?_)
              · replace h := ao_ifT h c21
                exact ih.2.2 r0 x1 x2 v4 p16.2 _ h
              · replace h := ao_ifF h c21
                refine ao_iconst (v := 1) dX12_wakes_56 (by decide) ?_
                cases h
                exact ao_ireturn dX12_wakes_57 rfl rfl ⟨rfl, rfl⟩
    · intro r0 x1 x2 x3 M y h
      replace h := ao_ifF h (by decide)
      replace h := ao_ifF h (by decide)
      replace h := ao_ifT h rfl
      obtain ⟨v22, hv22⟩ : ∃ z : Int32, z = x2 + (1 : Int32) := ⟨_, rfl⟩
      replace h := ao_letD h hv22
      refine ao_iinc 2 (v := v22) (lo' := [some (.ref (Γ.2.2.2 + r0)), some (.int x1), some (.int v22), some (.int x3)]) dX12_wakes_58 rfl (by rw [hv22]; rfl) (Nat.le_of_ble_eq_true rfl) rfl ?_
      refine ao_goto 2 dX12_wakes_61 (by decide) ?_
      refine ao_loForget (lo' := [some (.ref (Γ.2.2.2 + r0)), some (.int x1), some (.int v22), none]) (ao_fgS (ao_fgS (ao_fgS (ao_fgN ao_fgZ)))) ?_
      exact ih.2.1 r0 x1 v22 M _ h
set_option maxRecDepth 100000 in
set_option maxHeartbeats 4000000 in
theorem aX12_wakes {Γ : ao_C} (d : Nat) (hd : 1 ≤ d) (n : Nat) (r0 : Nat) (x1 : Int32) (M : ao_M) (ρ : ao_H) {y : Int32 × ao_M} (h : gX12_wakes n r0 x1 M ρ = some y) : ao_A Γ uX12_wakes d 0 0 [.ref (Γ.2.2.2 + r0), .int x1] (M, ρ) (ao_PI ρ y) := by
  refine ao_of (by decide) (ao_cat1 (Nat.le_of_ble_eq_true rfl)) (Nat.le_of_ble_eq_true rfl) ?_
  show ao_W Γ uX12_wakes (ao_rm d 0 0) (ao_Q Γ (ao_PI ρ y) 0 0) 0 0 0 [some (.ref (Γ.2.2.2 + r0)), some (.int x1), none, none] [] (M, ρ)
  exact (wX12_wakes d hd n).1 r0 x1 M y h

abbrev uX12_four : ao_Mi := (yX12_four, cX12_four, 3, none, [])
def fX12_four : Nat → Nat → Nat → Int32 → Int32 →  ao_M → ao_H → Option (ao_M)
  | 0, _, _, _, _, _, _ => none
  | n + 1, pc, r0, x1, x2, M, ρ =>
    if pc = 0 then
      fX12_four n 3 r0 x1 (24 : Int32) M ρ
    else if pc = 3 then
      if x2 < 0 then
        some M
      else
        if ρ.2.1 r0 = 22 then
        (ρ.1 r0 4).bind fun j3 =>
        if ρ.2.1 j3 = 1 then
        if ¬ ((M r0 6) < 0 ∨ ρ.2.2.1 j3 ≤ (M r0 6).toNatClampNeg) then
        ao_let (ao_u M j3 (M r0 6).toNatClampNeg (((x1 >>> (x2 &&& 31)).toInt8.toInt32).toInt8.toInt32)) fun M6 =>
        ao_let (ao_u M6 r0 6 ((M6 r0 6) + (1 : Int32))) fun M7 =>
        ao_let (x2 + (-8 : Int32)) fun v8 =>
        fX12_four n 3 r0 x1 v8 M7 ρ
        else none
        else none
        else none
    else none
def gX12_four (n : Nat) (r0 : Nat) (x1 : Int32) (M : ao_M) (ρ : ao_H) : Option (ao_M) := fX12_four n 0 r0 x1 0 M ρ
set_option maxRecDepth 100000 in
set_option maxHeartbeats 4000000 in
theorem wX12_four {Γ : ao_C} {ρ : ao_H} (d : Nat) (hd : 0 ≤ d) : ∀ n : Nat, (∀ (r0 : Nat) (x1 : Int32) (M : ao_M) (y : ao_M), fX12_four n 0 r0 x1 0 M ρ = some y → ao_W Γ uX12_four (ao_rm d 0 0) (ao_Q Γ (ao_PV ρ y) 0 0) 0 0 0 [some (.ref (Γ.2.2.2 + r0)), some (.int x1), none] [] (M, ρ)) ∧ (∀ (r0 : Nat) (x1 : Int32) (x2 : Int32) (M : ao_M) (y : ao_M), fX12_four n 3 r0 x1 x2 M ρ = some y → ao_W Γ uX12_four (ao_rm d 0 0) (ao_Q Γ (ao_PV ρ y) 0 0) 0 0 3 [some (.ref (Γ.2.2.2 + r0)), some (.int x1), some (.int x2)] [] (M, ρ)) := by
  intro n
  induction n with
  | zero => exact ⟨fun _ _ _ _ h => ao_no h, fun _ _ _ _ _ h => ao_no h⟩
  | succ n ih =>
    refine ⟨?_, ?_⟩
    · intro r0 x1 M y h
      replace h := ao_ifT h rfl
      refine ao_bipush (v := 24) dX12_four_0 (by decide) ?_
      refine ao_istore_n 2 (lo' := [some (.ref (Γ.2.2.2 + r0)), some (.int x1), some (.int (24 : Int32))]) dX12_four_2 rfl (Nat.le_of_ble_eq_true rfl) rfl ?_
      exact ih.2 r0 x1 (24 : Int32) M _ h
    · intro r0 x1 x2 M y h
      replace h := ao_ifF h (by decide)
      replace h := ao_ifT h rfl
      refine ao_iload_n 2 dX12_four_3 rfl rfl ?_
      refine ao_if_lt 36 dX12_four_4 (by decide) (fun c1 => ?_) (fun c1 => ?_)
      · replace h := ao_ifT h c1
        cases h
        exact ao_return dX12_four_36 rfl ⟨rfl, rfl⟩
      · replace h := ao_ifF h c1
        refine ao_aload_n 0 dX12_four_7 rfl rfl ?_
        obtain ⟨hk2, h⟩ := ao_some h
        obtain ⟨j3, hj3, h⟩ := ao_bind h
        refine an_getR r0 12 4 (q := (RX12, TX12, 83)) dX12_four_8 rfl hk2 (Nat.le_of_ble_eq_true rfl) rfl lf_X12_174 hj3 ?_
        refine ao_aload_n 0 dX12_four_11 rfl rfl ?_
        refine an_getI r0 12 6 (q := (RX12, TX12, 83)) dX12_four_12 rfl hk2 (Nat.le_of_ble_eq_true rfl) rfl lf_X12_494 ?_
        refine ao_iload_n 1 dX12_four_15 rfl rfl ?_
        refine ao_iload_n 2 dX12_four_16 rfl rfl ?_
        refine ao_ishr dX12_four_17 ?_
        refine ao_i2b dX12_four_18 ?_
        obtain ⟨hk4, h⟩ := ao_some h
        obtain ⟨hb5, h⟩ := ao_some h
        refine an_bastore j3 dX12_four_19 hk4 hb5 (fun M6 hM6 => ?_)
        replace h := ao_letD h hM6
        refine ao_aload_n 0 dX12_four_20 rfl rfl ?_
        refine ao_dup dX12_four_21 rfl ?_
        refine an_getI r0 12 6 (q := (RX12, TX12, 83)) dX12_four_22 rfl hk2 (Nat.le_of_ble_eq_true rfl) rfl lf_X12_494 ?_
        refine ao_iconst (v := 1) dX12_four_25 (by decide) ?_
        refine ao_iadd dX12_four_26 ?_
        refine an_putI r0 12 6 (q := (RX12, TX12, 83)) dX12_four_27 rfl hk2 (Nat.le_of_ble_eq_true rfl) lf_X12_494 rfl rfl rfl rfl (fun M7 hM7 => ?_)
        replace h := ao_letD h hM7
        obtain ⟨v8, hv8⟩ : ∃ z : Int32, z = x2 + (-8 : Int32) := ⟨_, rfl⟩
        replace h := ao_letD h hv8
        refine ao_iinc 2 (v := v8) (lo' := [some (.ref (Γ.2.2.2 + r0)), some (.int x1), some (.int v8)]) dX12_four_30 rfl (by rw [hv8]; rfl) (Nat.le_of_ble_eq_true rfl) rfl ?_
        refine ao_goto 3 dX12_four_33 (by decide) ?_
        exact ih.2 r0 x1 v8 M7 _ h
set_option maxRecDepth 100000 in
set_option maxHeartbeats 4000000 in
theorem aX12_four {Γ : ao_C} (d : Nat) (hd : 0 ≤ d) (n : Nat) (r0 : Nat) (x1 : Int32) (M : ao_M) (ρ : ao_H) {y : ao_M} (h : gX12_four n r0 x1 M ρ = some y) : ao_A Γ uX12_four d 0 0 [.ref (Γ.2.2.2 + r0), .int x1] (M, ρ) (ao_PV ρ y) := by
  refine ao_of (by decide) (ao_cat1 (Nat.le_of_ble_eq_true rfl)) (Nat.le_of_ble_eq_true rfl) ?_
  show ao_W Γ uX12_four (ao_rm d 0 0) (ao_Q Γ (ao_PV ρ y) 0 0) 0 0 0 [some (.ref (Γ.2.2.2 + r0)), some (.int x1), none] [] (M, ρ)
  exact (wX12_four d hd n).1 r0 x1 M y h

abbrev uX12_end : ao_Mi := (yX12_end, cX12_end, 2, (some .int), [])
def fX12_end : Nat → Nat → Nat → Int32 → Nat → Int32 → Nat →  ao_M → ao_H → Option (Int32 × ao_M)
  | 0, _, _, _, _, _, _, _, _ => none
  | n + 1, pc, r0, x1, q0, s0, q1, M, ρ =>
    if pc = 0 then
      if x1 < 0 then
        fX12_end n 13 r0 x1 r0 0 0 M ρ
      else
        if ρ.2.1 r0 = 22 then
        if x1 ≤ (M r0 6) then
          fX12_end n 18 r0 x1 0 (0 : Int32) r0 M ρ
        else
          fX12_end n 13 r0 x1 r0 0 0 M ρ
        else none
    else if pc = 13 then
      fX12_end n 18 r0 x1 0 (1 : Int32) q0 M ρ
    else if pc = 18 then
      if ρ.2.1 q1 = 22 then
      (gX12_fails q1 s0 M ρ).bind fun p5 =>
      if p5.1 = 0 then
        if ρ.2.1 r0 = 22 then
        ao_let (ao_u p5.2 r0 6 x1) fun M8 =>
        some (x1, M8)
        else none
      else
        some ((0 : Int32), p5.2)
      else none
    else none
def gX12_end (n : Nat) (r0 : Nat) (x1 : Int32) (M : ao_M) (ρ : ao_H) : Option (Int32 × ao_M) := fX12_end n 0 r0 x1 0 0 0 M ρ
set_option maxRecDepth 100000 in
set_option maxHeartbeats 4000000 in
theorem wX12_end {Γ : ao_C} {ρ : ao_H} (d : Nat) (hd : 1 ≤ d) : ∀ n : Nat, (∀ (r0 : Nat) (x1 : Int32) (M : ao_M) (y : Int32 × ao_M), fX12_end n 0 r0 x1 0 0 0 M ρ = some y → ao_W Γ uX12_end (ao_rm d 0 0) (ao_Q Γ (ao_PI ρ y) 0 0) 0 0 0 [some (.ref (Γ.2.2.2 + r0)), some (.int x1)] [] (M, ρ)) ∧ (∀ (r0 : Nat) (x1 : Int32) (q0 : Nat) (M : ao_M) (y : Int32 × ao_M), fX12_end n 13 r0 x1 q0 0 0 M ρ = some y → ao_W Γ uX12_end (ao_rm d 0 0) (ao_Q Γ (ao_PI ρ y) 0 0) 0 0 13 [some (.ref (Γ.2.2.2 + r0)), some (.int x1)] [.ref (Γ.2.2.2 + q0)] (M, ρ)) ∧ (∀ (r0 : Nat) (x1 : Int32) (s0 : Int32) (q1 : Nat) (M : ao_M) (y : Int32 × ao_M), fX12_end n 18 r0 x1 0 s0 q1 M ρ = some y → ao_W Γ uX12_end (ao_rm d 0 0) (ao_Q Γ (ao_PI ρ y) 0 0) 0 0 18 [some (.ref (Γ.2.2.2 + r0)), some (.int x1)] [.int s0, .ref (Γ.2.2.2 + q1)] (M, ρ)) := by
  intro n
  induction n with
  | zero => exact ⟨fun _ _ _ _ h => ao_no h, fun _ _ _ _ _ h => ao_no h, fun _ _ _ _ _ _ h => ao_no h⟩
  | succ n ih =>
    refine ⟨?_, ?_, ?_⟩
    · intro r0 x1 M y h
      replace h := ao_ifT h rfl
      refine ao_aload_n 0 dX12_end_0 rfl rfl ?_
      refine ao_iload_n 1 dX12_end_1 rfl rfl ?_
      refine ao_if_lt 13 dX12_end_2 (by decide) (fun c1 => ?_) (fun c1 => ?_)
      · replace h := ao_ifT h c1
        exact ih.2.1 r0 x1 r0 M _ h
      · replace h := ao_ifF h c1
        refine ao_iload_n 1 dX12_end_5 rfl rfl ?_
        refine ao_aload_n 0 dX12_end_6 rfl rfl ?_
        obtain ⟨hk2, h⟩ := ao_some h
        refine an_getI r0 12 6 (q := (RX12, TX12, 83)) dX12_end_7 rfl hk2 (Nat.le_of_ble_eq_true rfl) rfl lf_X12_494 ?_
        refine ao_icmp_le 17 dX12_end_10 (by decide) (fun c3 => ?_) (fun c3 => ?_)
        · replace h := ao_ifT h c3
          refine ao_iconst (v := 0) dX12_end_17 (by decide) ?_
          exact ih.2.2 r0 x1 (0 : Int32) r0 M _ h
        · replace h := ao_ifF h c3
          exact ih.2.1 r0 x1 r0 M _ h
    · intro r0 x1 q0 M y h
      replace h := ao_ifF h (by decide)
      replace h := ao_ifT h rfl
      refine ao_iconst (v := 1) dX12_end_13 (by decide) ?_
      refine ao_goto 18 dX12_end_14 (by decide) ?_
      exact ih.2.2 r0 x1 (1 : Int32) q0 M _ h
    · intro r0 x1 s0 q1 M y h
      replace h := ao_ifF h (by decide)
      replace h := ao_ifF h (by decide)
      replace h := ao_ifT h rfl
      obtain ⟨hk4, h⟩ := ao_some h
      obtain ⟨p5, hp5, h⟩ := ao_bind h
      refine an_callVi q1 12 (q := (RX12, TX12, 83)) [.int s0] (aX12_fails (d - 1) (by omega) q1 s0 M ρ hp5) dX12_end_18 lc_X12_497 li_X12_fails ls_X12_fails rfl hk4 rfl rfl (Nat.le_of_ble_eq_true rfl) (ao_hR (by omega) (by decide)) ?_
      refine ao_if_eq 26 dX12_end_21 (by decide) (fun c6 => ?_) (fun c6 => ?_)
      · replace h := ao_ifT h c6
        refine ao_aload_n 0 dX12_end_26 rfl rfl ?_
        refine ao_iload_n 1 dX12_end_27 rfl rfl ?_
        obtain ⟨hk7, h⟩ := ao_some h
        refine an_putI r0 12 6 (q := (RX12, TX12, 83)) dX12_end_28 rfl hk7 (Nat.le_of_ble_eq_true rfl) lf_X12_494 rfl rfl rfl rfl (fun M8 hM8 => ?_)
        replace h := ao_letD h hM8
        refine ao_iload_n 1 dX12_end_31 rfl rfl ?_
        cases h
        exact ao_ireturn dX12_end_32 rfl rfl ⟨rfl, rfl⟩
      · replace h := ao_ifF h c6
        refine ao_iconst (v := 0) dX12_end_24 (by decide) ?_
        cases h
        exact ao_ireturn dX12_end_25 rfl rfl ⟨rfl, rfl⟩
set_option maxRecDepth 100000 in
set_option maxHeartbeats 4000000 in
theorem aX12_end {Γ : ao_C} (d : Nat) (hd : 1 ≤ d) (n : Nat) (r0 : Nat) (x1 : Int32) (M : ao_M) (ρ : ao_H) {y : Int32 × ao_M} (h : gX12_end n r0 x1 M ρ = some y) : ao_A Γ uX12_end d 0 0 [.ref (Γ.2.2.2 + r0), .int x1] (M, ρ) (ao_PI ρ y) := by
  refine ao_of (by decide) (ao_cat1 (Nat.le_of_ble_eq_true rfl)) (Nat.le_of_ble_eq_true rfl) ?_
  show ao_W Γ uX12_end (ao_rm d 0 0) (ao_Q Γ (ao_PI ρ y) 0 0) 0 0 0 [some (.ref (Γ.2.2.2 + r0)), some (.int x1)] [] (M, ρ)
  exact (wX12_end d hd n).1 r0 x1 M y h

abbrev uX12_isThread : ao_Mi := (yX12_isThread, cX12_isThread, 1, (some .boolean), [])
def gX12_isThread (x0 : Int32) (M : ao_M) (ρ : ao_H) : Option (Int32 × ao_M) :=
  if x0 < 0 then
    some ((0 : Int32), M)
  else
    if (6 : Int32) ≤ x0 then
      some ((0 : Int32), M)
    else
      some ((1 : Int32), M)
set_option maxRecDepth 100000 in
set_option maxHeartbeats 4000000 in
theorem aX12_isThread {Γ : ao_C} (d : Nat) (hd : 0 ≤ d) (x0 : Int32) (M : ao_M) (ρ : ao_H) {y : Int32 × ao_M} (h : gX12_isThread x0 M ρ = some y) : ao_A Γ uX12_isThread d 0 0 [.int x0] (M, ρ) (ao_PI ρ y) := by
  refine ao_of (by decide) (ao_cat1 (Nat.le_of_ble_eq_true rfl)) (Nat.le_of_ble_eq_true rfl) ?_
  show ao_W Γ uX12_isThread (ao_rm d 0 0) (ao_Q Γ (ao_PI ρ y) 0 0) 0 0 0 [some (.int x0)] [] (M, ρ)
  unfold gX12_isThread at h
  refine ao_iload_n 0 dX12_isThread_0 rfl rfl ?_
  refine ao_if_lt 14 dX12_isThread_1 (by decide) (fun c1 => ?_) (fun c1 => ?_)
  · replace h := ao_ifT h c1
    refine ao_iconst (v := 0) dX12_isThread_14 (by decide) ?_
    cases h
    exact ao_ireturn dX12_isThread_15 rfl rfl ⟨rfl, rfl⟩
  · replace h := ao_ifF h c1
    refine ao_iload_n 0 dX12_isThread_4 rfl rfl ?_
    refine ao_bipush (v := 6) dX12_isThread_5 (by decide) ?_
    refine ao_icmp_ge 14 dX12_isThread_7 (by decide) (fun c2 => ?_) (fun c2 => ?_)
    · replace h := ao_ifT h c2
      refine ao_iconst (v := 0) dX12_isThread_14 (by decide) ?_
      cases h
      exact ao_ireturn dX12_isThread_15 rfl rfl ⟨rfl, rfl⟩
    · replace h := ao_ifF h c2
      refine ao_iconst (v := 1) dX12_isThread_10 (by decide) ?_
      refine ao_goto 15 dX12_isThread_11 (by decide) ?_
      cases h
      exact ao_ireturn dX12_isThread_15 rfl rfl ⟨rfl, rfl⟩

abbrev uX12_isPlace : ao_Mi := (yX12_isPlace, cX12_isPlace, 1, (some .boolean), [])
def gX12_isPlace (x0 : Int32) (M : ao_M) (ρ : ao_H) : Option (Int32 × ao_M) :=
  if x0 < 0 then
    some ((0 : Int32), M)
  else
    if (26 : Int32) ≤ x0 then
      some ((0 : Int32), M)
    else
      some ((1 : Int32), M)
set_option maxRecDepth 100000 in
set_option maxHeartbeats 4000000 in
theorem aX12_isPlace {Γ : ao_C} (d : Nat) (hd : 0 ≤ d) (x0 : Int32) (M : ao_M) (ρ : ao_H) {y : Int32 × ao_M} (h : gX12_isPlace x0 M ρ = some y) : ao_A Γ uX12_isPlace d 0 0 [.int x0] (M, ρ) (ao_PI ρ y) := by
  refine ao_of (by decide) (ao_cat1 (Nat.le_of_ble_eq_true rfl)) (Nat.le_of_ble_eq_true rfl) ?_
  show ao_W Γ uX12_isPlace (ao_rm d 0 0) (ao_Q Γ (ao_PI ρ y) 0 0) 0 0 0 [some (.int x0)] [] (M, ρ)
  unfold gX12_isPlace at h
  refine ao_iload_n 0 dX12_isPlace_0 rfl rfl ?_
  refine ao_if_lt 14 dX12_isPlace_1 (by decide) (fun c1 => ?_) (fun c1 => ?_)
  · replace h := ao_ifT h c1
    refine ao_iconst (v := 0) dX12_isPlace_14 (by decide) ?_
    cases h
    exact ao_ireturn dX12_isPlace_15 rfl rfl ⟨rfl, rfl⟩
  · replace h := ao_ifF h c1
    refine ao_iload_n 0 dX12_isPlace_4 rfl rfl ?_
    refine ao_bipush (v := 26) dX12_isPlace_5 (by decide) ?_
    refine ao_icmp_ge 14 dX12_isPlace_7 (by decide) (fun c2 => ?_) (fun c2 => ?_)
    · replace h := ao_ifT h c2
      refine ao_iconst (v := 0) dX12_isPlace_14 (by decide) ?_
      cases h
      exact ao_ireturn dX12_isPlace_15 rfl rfl ⟨rfl, rfl⟩
    · replace h := ao_ifF h c2
      refine ao_iconst (v := 1) dX12_isPlace_10 (by decide) ?_
      refine ao_goto 15 dX12_isPlace_11 (by decide) ?_
      cases h
      exact ao_ireturn dX12_isPlace_15 rfl rfl ⟨rfl, rfl⟩

abbrev uX12_place : ao_Mi := (yX12_place, cX12_place, 1, (some .int), [])
def gX12_place (r0 : Nat) (M : ao_M) (ρ : ao_H) : Option (Int32 × ao_M) :=
  if ρ.2.1 r0 = 22 then
  ao_let (ao_u M r0 0 (0 : Int32)) fun M2 =>
  some ((M2 r0 3), M2)
  else none
set_option maxRecDepth 100000 in
set_option maxHeartbeats 4000000 in
theorem aX12_place {Γ : ao_C} (d : Nat) (hd : 0 ≤ d) (r0 : Nat) (M : ao_M) (ρ : ao_H) {y : Int32 × ao_M} (h : gX12_place r0 M ρ = some y) : ao_A Γ uX12_place d 0 0 [.ref (Γ.2.2.2 + r0)] (M, ρ) (ao_PI ρ y) := by
  refine ao_of (by decide) (ao_cat1 (Nat.le_of_ble_eq_true rfl)) (Nat.le_of_ble_eq_true rfl) ?_
  show ao_W Γ uX12_place (ao_rm d 0 0) (ao_Q Γ (ao_PI ρ y) 0 0) 0 0 0 [some (.ref (Γ.2.2.2 + r0))] [] (M, ρ)
  unfold gX12_place at h
  refine ao_aload_n 0 dX12_place_0 rfl rfl ?_
  refine ao_iconst (v := 0) dX12_place_1 (by decide) ?_
  obtain ⟨hk1, h⟩ := ao_some h
  refine an_putI r0 12 0 (q := (RX12, TX12, 83)) dX12_place_2 rfl hk1 (Nat.le_of_ble_eq_true rfl) lf_X12_1 rfl rfl rfl rfl (fun M2 hM2 => ?_)
  replace h := ao_letD h hM2
  refine ao_aload_n 0 dX12_place_5 rfl rfl ?_
  refine an_getI r0 12 3 (q := (RX12, TX12, 83)) dX12_place_6 rfl hk1 (Nat.le_of_ble_eq_true rfl) rfl lf_X12_171 ?_
  cases h
  exact ao_ireturn dX12_place_9 rfl rfl ⟨rfl, rfl⟩

abbrev uX12_isLive : ao_Mi := (yX12_isLive, cX12_isLive, 2, (some .boolean), [])
def fX12_isLive : Nat → Nat → Nat → Int32 →  ao_M → ao_H → Option (Int32 × ao_M)
  | 0, _, _, _, _, _ => none
  | n + 1, pc, r0, x1, M, ρ =>
    if pc = 0 then
      if ρ.2.1 r0 = 22 then
      (ρ.1 r0 29).bind fun j2 =>
      if ρ.2.1 j2 = 0 then
      if ¬ (x1 < 0 ∨ ρ.2.2.1 j2 ≤ x1.toNatClampNeg) then
      if (M j2 x1.toNatClampNeg) = (1 : Int32) then
        fX12_isLive n 30 r0 x1 M ρ
      else
        if (M j2 x1.toNatClampNeg) = (2 : Int32) then
          fX12_isLive n 30 r0 x1 M ρ
        else
          if (M j2 x1.toNatClampNeg) = (3 : Int32) then
            fX12_isLive n 30 r0 x1 M ρ
          else
            some ((0 : Int32), M)
      else none
      else none
      else none
    else if pc = 30 then
      some ((1 : Int32), M)
    else none
def gX12_isLive (n : Nat) (r0 : Nat) (x1 : Int32) (M : ao_M) (ρ : ao_H) : Option (Int32 × ao_M) := fX12_isLive n 0 r0 x1 M ρ
set_option maxRecDepth 100000 in
set_option maxHeartbeats 4000000 in
theorem wX12_isLive {Γ : ao_C} {ρ : ao_H} (d : Nat) (hd : 0 ≤ d) : ∀ n : Nat, (∀ (r0 : Nat) (x1 : Int32) (M : ao_M) (y : Int32 × ao_M), fX12_isLive n 0 r0 x1 M ρ = some y → ao_W Γ uX12_isLive (ao_rm d 0 0) (ao_Q Γ (ao_PI ρ y) 0 0) 0 0 0 [some (.ref (Γ.2.2.2 + r0)), some (.int x1)] [] (M, ρ)) ∧ (∀ (r0 : Nat) (x1 : Int32) (M : ao_M) (y : Int32 × ao_M), fX12_isLive n 30 r0 x1 M ρ = some y → ao_W Γ uX12_isLive (ao_rm d 0 0) (ao_Q Γ (ao_PI ρ y) 0 0) 0 0 30 [some (.ref (Γ.2.2.2 + r0)), some (.int x1)] [] (M, ρ)) := by
  intro n
  induction n with
  | zero => exact ⟨fun _ _ _ _ h => ao_no h, fun _ _ _ _ h => ao_no h⟩
  | succ n ih =>
    refine ⟨?_, ?_⟩
    · intro r0 x1 M y h
      replace h := ao_ifT h rfl
      refine ao_aload_n 0 dX12_isLive_0 rfl rfl ?_
      obtain ⟨hk1, h⟩ := ao_some h
      obtain ⟨j2, hj2, h⟩ := ao_bind h
      refine an_getR r0 12 29 (q := (RX12, TX12, 83)) dX12_isLive_1 rfl hk1 (Nat.le_of_ble_eq_true rfl) rfl lf_X12_187 hj2 ?_
      refine ao_iload_n 1 dX12_isLive_4 rfl rfl ?_
      obtain ⟨hk3, h⟩ := ao_some h
      obtain ⟨hb4, h⟩ := ao_some h
      refine an_iaload j2 dX12_isLive_5 hk3 hb4 ?_
      refine ao_iconst (v := 1) dX12_isLive_6 (by decide) ?_
      refine ao_icmp_eq 30 dX12_isLive_7 (by decide) (fun c5 => ?_) (fun c5 => ?_)
      · replace h := ao_ifT h c5
        exact ih.2 r0 x1 M _ h
      · replace h := ao_ifF h c5
        refine ao_aload_n 0 dX12_isLive_10 rfl rfl ?_
        refine an_getR r0 12 29 (q := (RX12, TX12, 83)) dX12_isLive_11 rfl hk1 (Nat.le_of_ble_eq_true rfl) rfl lf_X12_187 hj2 ?_
        refine ao_iload_n 1 dX12_isLive_14 rfl rfl ?_
        refine an_iaload j2 dX12_isLive_15 hk3 hb4 ?_
        refine ao_iconst (v := 2) dX12_isLive_16 (by decide) ?_
        refine ao_icmp_eq 30 dX12_isLive_17 (by decide) (fun c6 => ?_) (fun c6 => ?_)
        · replace h := ao_ifT h c6
          exact ih.2 r0 x1 M _ h
        · replace h := ao_ifF h c6
          refine ao_aload_n 0 dX12_isLive_20 rfl rfl ?_
          refine an_getR r0 12 29 (q := (RX12, TX12, 83)) dX12_isLive_21 rfl hk1 (Nat.le_of_ble_eq_true rfl) rfl lf_X12_187 hj2 ?_
          refine ao_iload_n 1 dX12_isLive_24 rfl rfl ?_
          refine an_iaload j2 dX12_isLive_25 hk3 hb4 ?_
          refine ao_iconst (v := 3) dX12_isLive_26 (by decide) ?_
          refine ao_icmp_ne 34 dX12_isLive_27 (by decide) (fun c7 => ?_) (fun c7 => ?_)
          · replace h := ao_ifF h c7
            refine ao_iconst (v := 0) dX12_isLive_34 (by decide) ?_
            cases h
            exact ao_ireturn dX12_isLive_35 rfl rfl ⟨rfl, rfl⟩
          · replace h := ao_ifT h c7
            exact ih.2 r0 x1 M _ h
    · intro r0 x1 M y h
      replace h := ao_ifF h (by decide)
      replace h := ao_ifT h rfl
      refine ao_iconst (v := 1) dX12_isLive_30 (by decide) ?_
      refine ao_goto 35 dX12_isLive_31 (by decide) ?_
      cases h
      exact ao_ireturn dX12_isLive_35 rfl rfl ⟨rfl, rfl⟩
set_option maxRecDepth 100000 in
set_option maxHeartbeats 4000000 in
theorem aX12_isLive {Γ : ao_C} (d : Nat) (hd : 0 ≤ d) (n : Nat) (r0 : Nat) (x1 : Int32) (M : ao_M) (ρ : ao_H) {y : Int32 × ao_M} (h : gX12_isLive n r0 x1 M ρ = some y) : ao_A Γ uX12_isLive d 0 0 [.ref (Γ.2.2.2 + r0), .int x1] (M, ρ) (ao_PI ρ y) := by
  refine ao_of (by decide) (ao_cat1 (Nat.le_of_ble_eq_true rfl)) (Nat.le_of_ble_eq_true rfl) ?_
  show ao_W Γ uX12_isLive (ao_rm d 0 0) (ao_Q Γ (ao_PI ρ y) 0 0) 0 0 0 [some (.ref (Γ.2.2.2 + r0)), some (.int x1)] [] (M, ρ)
  exact (wX12_isLive d hd n).1 r0 x1 M y h

abbrev uX12_has : ao_Mi := (yX12_has, cX12_has, 2, (some .int), [])
def fX12_has : Nat → Nat → Nat → Int32 → Int32 → Nat →  ao_M → ao_H → Option (Int32 × ao_M)
  | 0, _, _, _, _, _, _, _ => none
  | n + 1, pc, r0, x1, s0, q1, M, ρ =>
    if pc = 0 then
      (gX12_isPlace x1 M ρ).bind fun p1 =>
      if p1.1 = 0 then
        fX12_has n 13 r0 x1 (1 : Int32) r0 p1.2 ρ
      else
        fX12_has n 13 r0 x1 (0 : Int32) r0 p1.2 ρ
    else if pc = 13 then
      if ρ.2.1 q1 = 22 then
      (gX12_fails q1 s0 M ρ).bind fun p4 =>
      if p4.1 = 0 then
        if ρ.2.1 r0 = 22 then
        (ρ.1 r0 17).bind fun j7 =>
        if ρ.2.1 j7 = 0 then
        if ¬ (x1 < 0 ∨ ρ.2.2.1 j7 ≤ x1.toNatClampNeg) then
        some ((p4.2 j7 x1.toNatClampNeg), p4.2)
        else none
        else none
        else none
      else
        some ((0 : Int32), p4.2)
      else none
    else none
def gX12_has (n : Nat) (r0 : Nat) (x1 : Int32) (M : ao_M) (ρ : ao_H) : Option (Int32 × ao_M) := fX12_has n 0 r0 x1 0 0 M ρ
set_option maxRecDepth 100000 in
set_option maxHeartbeats 4000000 in
theorem wX12_has {Γ : ao_C} {ρ : ao_H} (d : Nat) (hd : 1 ≤ d) : ∀ n : Nat, (∀ (r0 : Nat) (x1 : Int32) (M : ao_M) (y : Int32 × ao_M), fX12_has n 0 r0 x1 0 0 M ρ = some y → ao_W Γ uX12_has (ao_rm d 0 0) (ao_Q Γ (ao_PI ρ y) 0 0) 0 0 0 [some (.ref (Γ.2.2.2 + r0)), some (.int x1)] [] (M, ρ)) ∧ (∀ (r0 : Nat) (x1 : Int32) (s0 : Int32) (q1 : Nat) (M : ao_M) (y : Int32 × ao_M), fX12_has n 13 r0 x1 s0 q1 M ρ = some y → ao_W Γ uX12_has (ao_rm d 0 0) (ao_Q Γ (ao_PI ρ y) 0 0) 0 0 13 [some (.ref (Γ.2.2.2 + r0)), some (.int x1)] [.int s0, .ref (Γ.2.2.2 + q1)] (M, ρ)) := by
  intro n
  induction n with
  | zero => exact ⟨fun _ _ _ _ h => ao_no h, fun _ _ _ _ _ _ h => ao_no h⟩
  | succ n ih =>
    refine ⟨?_, ?_⟩
    · intro r0 x1 M y h
      replace h := ao_ifT h rfl
      refine ao_aload_n 0 dX12_has_0 rfl rfl ?_
      refine ao_iload_n 1 dX12_has_1 rfl rfl ?_
      obtain ⟨p1, hp1, h⟩ := ao_bind h
      refine an_callSi [.int x1] (aX12_isPlace (d - 1) (by omega) x1 M ρ hp1) dX12_has_2 lc_X12_509 lt_X12_isPlace rfl rfl (Nat.le_of_ble_eq_true rfl) (ao_hR (by omega) (by decide)) ?_
      refine ao_if_ne 12 dX12_has_5 (by decide) (fun c2 => ?_) (fun c2 => ?_)
      · replace h := ao_ifF h c2
        refine ao_iconst (v := 0) dX12_has_12 (by decide) ?_
        exact ih.2 r0 x1 (0 : Int32) r0 p1.2 _ h
      · replace h := ao_ifT h c2
        refine ao_iconst (v := 1) dX12_has_8 (by decide) ?_
        refine ao_goto 13 dX12_has_9 (by decide) ?_
        exact ih.2 r0 x1 (1 : Int32) r0 p1.2 _ h
    · intro r0 x1 s0 q1 M y h
      replace h := ao_ifF h (by decide)
      replace h := ao_ifT h rfl
      obtain ⟨hk3, h⟩ := ao_some h
      obtain ⟨p4, hp4, h⟩ := ao_bind h
      refine an_callVi q1 12 (q := (RX12, TX12, 83)) [.int s0] (aX12_fails (d - 1) (by omega) q1 s0 M ρ hp4) dX12_has_13 lc_X12_497 li_X12_fails ls_X12_fails rfl hk3 rfl rfl (Nat.le_of_ble_eq_true rfl) (ao_hR (by omega) (by decide)) ?_
      refine ao_if_eq 21 dX12_has_16 (by decide) (fun c5 => ?_) (fun c5 => ?_)
      · replace h := ao_ifT h c5
        refine ao_aload_n 0 dX12_has_21 rfl rfl ?_
        obtain ⟨hk6, h⟩ := ao_some h
        obtain ⟨j7, hj7, h⟩ := ao_bind h
        refine an_getR r0 12 17 (q := (RX12, TX12, 83)) dX12_has_22 rfl hk6 (Nat.le_of_ble_eq_true rfl) rfl lf_X12_151 hj7 ?_
        refine ao_iload_n 1 dX12_has_25 rfl rfl ?_
        obtain ⟨hk8, h⟩ := ao_some h
        obtain ⟨hb9, h⟩ := ao_some h
        refine an_iaload j7 dX12_has_26 hk8 hb9 ?_
        cases h
        exact ao_ireturn dX12_has_27 rfl rfl ⟨rfl, rfl⟩
      · replace h := ao_ifF h c5
        refine ao_iconst (v := 0) dX12_has_19 (by decide) ?_
        cases h
        exact ao_ireturn dX12_has_20 rfl rfl ⟨rfl, rfl⟩
set_option maxRecDepth 100000 in
set_option maxHeartbeats 4000000 in
theorem aX12_has {Γ : ao_C} (d : Nat) (hd : 1 ≤ d) (n : Nat) (r0 : Nat) (x1 : Int32) (M : ao_M) (ρ : ao_H) {y : Int32 × ao_M} (h : gX12_has n r0 x1 M ρ = some y) : ao_A Γ uX12_has d 0 0 [.ref (Γ.2.2.2 + r0), .int x1] (M, ρ) (ao_PI ρ y) := by
  refine ao_of (by decide) (ao_cat1 (Nat.le_of_ble_eq_true rfl)) (Nat.le_of_ble_eq_true rfl) ?_
  show ao_W Γ uX12_has (ao_rm d 0 0) (ao_Q Γ (ao_PI ρ y) 0 0) 0 0 0 [some (.ref (Γ.2.2.2 + r0)), some (.int x1)] [] (M, ρ)
  exact (wX12_has d hd n).1 r0 x1 M y h

abbrev uX12_had : ao_Mi := (yX12_had, cX12_had, 3, (some .int), [])
def fX12_had : Nat → Nat → Nat → Int32 → Int32 → Nat → Int32 → Nat →  ao_M → ao_H → Option (Int32 × ao_M)
  | 0, _, _, _, _, _, _, _, _, _ => none
  | n + 1, pc, r0, x1, x2, q0, s0, q1, M, ρ =>
    if pc = 0 then
      (gX12_isPlace x1 M ρ).bind fun p1 =>
      if p1.1 = 0 then
        fX12_had n 20 r0 x1 x2 r0 0 0 p1.2 ρ
      else
        if x2 < 0 then
          fX12_had n 20 r0 x1 x2 r0 0 0 p1.2 ρ
        else
          if ρ.2.1 r0 = 22 then
          if x2 ≤ (p1.2 r0 26) then
            fX12_had n 25 r0 x1 x2 0 (0 : Int32) r0 p1.2 ρ
          else
            fX12_had n 20 r0 x1 x2 r0 0 0 p1.2 ρ
          else none
    else if pc = 20 then
      fX12_had n 25 r0 x1 x2 0 (1 : Int32) q0 M ρ
    else if pc = 25 then
      if ρ.2.1 q1 = 22 then
      (gX12_fails q1 s0 M ρ).bind fun p7 =>
      if p7.1 = 0 then
        if ρ.2.1 r0 = 22 then
        (gX12_past n r0 x1 x2 p7.2 ρ).bind fun p10 =>
        some (p10.1, p10.2)
        else none
      else
        some ((0 : Int32), p7.2)
      else none
    else none
def gX12_had (n : Nat) (r0 : Nat) (x1 : Int32) (x2 : Int32) (M : ao_M) (ρ : ao_H) : Option (Int32 × ao_M) := fX12_had n 0 r0 x1 x2 0 0 0 M ρ
set_option maxRecDepth 100000 in
set_option maxHeartbeats 4000000 in
theorem wX12_had {Γ : ao_C} {ρ : ao_H} (d : Nat) (hd : 1 ≤ d) : ∀ n : Nat, (∀ (r0 : Nat) (x1 : Int32) (x2 : Int32) (M : ao_M) (y : Int32 × ao_M), fX12_had n 0 r0 x1 x2 0 0 0 M ρ = some y → ao_W Γ uX12_had (ao_rm d 0 0) (ao_Q Γ (ao_PI ρ y) 0 0) 0 0 0 [some (.ref (Γ.2.2.2 + r0)), some (.int x1), some (.int x2)] [] (M, ρ)) ∧ (∀ (r0 : Nat) (x1 : Int32) (x2 : Int32) (q0 : Nat) (M : ao_M) (y : Int32 × ao_M), fX12_had n 20 r0 x1 x2 q0 0 0 M ρ = some y → ao_W Γ uX12_had (ao_rm d 0 0) (ao_Q Γ (ao_PI ρ y) 0 0) 0 0 20 [some (.ref (Γ.2.2.2 + r0)), some (.int x1), some (.int x2)] [.ref (Γ.2.2.2 + q0)] (M, ρ)) ∧ (∀ (r0 : Nat) (x1 : Int32) (x2 : Int32) (s0 : Int32) (q1 : Nat) (M : ao_M) (y : Int32 × ao_M), fX12_had n 25 r0 x1 x2 0 s0 q1 M ρ = some y → ao_W Γ uX12_had (ao_rm d 0 0) (ao_Q Γ (ao_PI ρ y) 0 0) 0 0 25 [some (.ref (Γ.2.2.2 + r0)), some (.int x1), some (.int x2)] [.int s0, .ref (Γ.2.2.2 + q1)] (M, ρ)) := by
  intro n
  induction n with
  | zero => exact ⟨fun _ _ _ _ _ h => ao_no h, fun _ _ _ _ _ _ h => ao_no h, fun _ _ _ _ _ _ _ h => ao_no h⟩
  | succ n ih =>
    refine ⟨?_, ?_, ?_⟩
    · intro r0 x1 x2 M y h
      replace h := ao_ifT h rfl
      refine ao_aload_n 0 dX12_had_0 rfl rfl ?_
      refine ao_iload_n 1 dX12_had_1 rfl rfl ?_
      obtain ⟨p1, hp1, h⟩ := ao_bind h
      refine an_callSi [.int x1] (aX12_isPlace (d - 1) (by omega) x1 M ρ hp1) dX12_had_2 lc_X12_509 lt_X12_isPlace rfl rfl (Nat.le_of_ble_eq_true rfl) (ao_hR (by omega) (by decide)) ?_
      refine ao_if_eq 20 dX12_had_5 (by decide) (fun c2 => ?_) (fun c2 => ?_)
      · replace h := ao_ifT h c2
        exact ih.2.1 r0 x1 x2 r0 p1.2 _ h
      · replace h := ao_ifF h c2
        refine ao_iload_n 2 dX12_had_8 rfl rfl ?_
        refine ao_if_lt 20 dX12_had_9 (by decide) (fun c3 => ?_) (fun c3 => ?_)
        · replace h := ao_ifT h c3
          exact ih.2.1 r0 x1 x2 r0 p1.2 _ h
        · replace h := ao_ifF h c3
          refine ao_iload_n 2 dX12_had_12 rfl rfl ?_
          refine ao_aload_n 0 dX12_had_13 rfl rfl ?_
          obtain ⟨hk4, h⟩ := ao_some h
          refine an_getI r0 12 26 (q := (RX12, TX12, 83)) dX12_had_14 rfl hk4 (Nat.le_of_ble_eq_true rfl) rfl lf_X12_148 ?_
          refine ao_icmp_le 24 dX12_had_17 (by decide) (fun c5 => ?_) (fun c5 => ?_)
          · replace h := ao_ifT h c5
            refine ao_iconst (v := 0) dX12_had_24 (by decide) ?_
            exact ih.2.2 r0 x1 x2 (0 : Int32) r0 p1.2 _ h
          · replace h := ao_ifF h c5
            exact ih.2.1 r0 x1 x2 r0 p1.2 _ h
    · intro r0 x1 x2 q0 M y h
      replace h := ao_ifF h (by decide)
      replace h := ao_ifT h rfl
      refine ao_iconst (v := 1) dX12_had_20 (by decide) ?_
      refine ao_goto 25 dX12_had_21 (by decide) ?_
      exact ih.2.2 r0 x1 x2 (1 : Int32) q0 M _ h
    · intro r0 x1 x2 s0 q1 M y h
      replace h := ao_ifF h (by decide)
      replace h := ao_ifF h (by decide)
      replace h := ao_ifT h rfl
      obtain ⟨hk6, h⟩ := ao_some h
      obtain ⟨p7, hp7, h⟩ := ao_bind h
      refine an_callVi q1 12 (q := (RX12, TX12, 83)) [.int s0] (aX12_fails (d - 1) (by omega) q1 s0 M ρ hp7) dX12_had_25 lc_X12_497 li_X12_fails ls_X12_fails rfl hk6 rfl rfl (Nat.le_of_ble_eq_true rfl) (ao_hR (by omega) (by decide)) ?_
      refine ao_if_eq 33 dX12_had_28 (by decide) (fun c8 => ?_) (fun c8 => ?_)
      · replace h := ao_ifT h c8
        refine ao_aload_n 0 dX12_had_33 rfl rfl ?_
        refine ao_iload_n 1 dX12_had_34 rfl rfl ?_
        refine ao_iload_n 2 dX12_had_35 rfl rfl ?_
        obtain ⟨hk9, h⟩ := ao_some h
        obtain ⟨p10, hp10, h⟩ := ao_bind h
        refine an_callVi r0 12 (q := (RX12, TX12, 83)) [.int x1, .int x2] (aX12_past (d - 1) (by omega) _ r0 x1 x2 p7.2 ρ hp10) dX12_had_36 lc_X12_415 li_X12_past ls_X12_past rfl hk9 rfl rfl (Nat.le_of_ble_eq_true rfl) (ao_hR (by omega) (by decide)) ?_
        cases h
        exact ao_ireturn dX12_had_39 rfl rfl ⟨rfl, rfl⟩
      · replace h := ao_ifF h c8
        refine ao_iconst (v := 0) dX12_had_31 (by decide) ?_
        cases h
        exact ao_ireturn dX12_had_32 rfl rfl ⟨rfl, rfl⟩
set_option maxRecDepth 100000 in
set_option maxHeartbeats 4000000 in
theorem aX12_had {Γ : ao_C} (d : Nat) (hd : 1 ≤ d) (n : Nat) (r0 : Nat) (x1 : Int32) (x2 : Int32) (M : ao_M) (ρ : ao_H) {y : Int32 × ao_M} (h : gX12_had n r0 x1 x2 M ρ = some y) : ao_A Γ uX12_had d 0 0 [.ref (Γ.2.2.2 + r0), .int x1, .int x2] (M, ρ) (ao_PI ρ y) := by
  refine ao_of (by decide) (ao_cat1 (Nat.le_of_ble_eq_true rfl)) (Nat.le_of_ble_eq_true rfl) ?_
  show ao_W Γ uX12_had (ao_rm d 0 0) (ao_Q Γ (ao_PI ρ y) 0 0) 0 0 0 [some (.ref (Γ.2.2.2 + r0)), some (.int x1), some (.int x2)] [] (M, ρ)
  exact (wX12_had d hd n).1 r0 x1 x2 M y h

abbrev uX12_register : ao_Mi := (yX12_register, cX12_register, 3, (some .int), [])
def fX12_register : Nat → Nat → Nat → Int32 → Int32 → Nat → Int32 → Nat →  ao_M → ao_H → Option (Int32 × ao_M)
  | 0, _, _, _, _, _, _, _, _, _ => none
  | n + 1, pc, r0, x1, x2, q0, s0, q1, M, ρ =>
    if pc = 0 then
      (gX12_isThread x1 M ρ).bind fun p1 =>
      if p1.1 = 0 then
        fX12_register n 15 r0 x1 x2 r0 0 0 p1.2 ρ
      else
        (gX12_isPlace x2 p1.2 ρ).bind fun p3 =>
        if p3.1 = 0 then
          fX12_register n 15 r0 x1 x2 r0 0 0 p3.2 ρ
        else
          fX12_register n 20 r0 x1 x2 0 (0 : Int32) r0 p3.2 ρ
    else if pc = 15 then
      fX12_register n 20 r0 x1 x2 0 (1 : Int32) q0 M ρ
    else if pc = 20 then
      if ρ.2.1 q1 = 22 then
      (gX12_fails q1 s0 M ρ).bind fun p6 =>
      if p6.1 = 0 then
        if ρ.2.1 r0 = 22 then
        (ρ.1 r0 31).bind fun j9 =>
        if ρ.2.1 j9 = 0 then
        if ¬ (((x1 * (26 : Int32)) + x2) < 0 ∨ ρ.2.2.1 j9 ≤ ((x1 * (26 : Int32)) + x2).toNatClampNeg) then
        some ((p6.2 j9 ((x1 * (26 : Int32)) + x2).toNatClampNeg), p6.2)
        else none
        else none
        else none
      else
        some ((0 : Int32), p6.2)
      else none
    else none
def gX12_register (n : Nat) (r0 : Nat) (x1 : Int32) (x2 : Int32) (M : ao_M) (ρ : ao_H) : Option (Int32 × ao_M) := fX12_register n 0 r0 x1 x2 0 0 0 M ρ
set_option maxRecDepth 100000 in
set_option maxHeartbeats 4000000 in
theorem wX12_register {Γ : ao_C} {ρ : ao_H} (d : Nat) (hd : 1 ≤ d) : ∀ n : Nat, (∀ (r0 : Nat) (x1 : Int32) (x2 : Int32) (M : ao_M) (y : Int32 × ao_M), fX12_register n 0 r0 x1 x2 0 0 0 M ρ = some y → ao_W Γ uX12_register (ao_rm d 0 0) (ao_Q Γ (ao_PI ρ y) 0 0) 0 0 0 [some (.ref (Γ.2.2.2 + r0)), some (.int x1), some (.int x2)] [] (M, ρ)) ∧ (∀ (r0 : Nat) (x1 : Int32) (x2 : Int32) (q0 : Nat) (M : ao_M) (y : Int32 × ao_M), fX12_register n 15 r0 x1 x2 q0 0 0 M ρ = some y → ao_W Γ uX12_register (ao_rm d 0 0) (ao_Q Γ (ao_PI ρ y) 0 0) 0 0 15 [some (.ref (Γ.2.2.2 + r0)), some (.int x1), some (.int x2)] [.ref (Γ.2.2.2 + q0)] (M, ρ)) ∧ (∀ (r0 : Nat) (x1 : Int32) (x2 : Int32) (s0 : Int32) (q1 : Nat) (M : ao_M) (y : Int32 × ao_M), fX12_register n 20 r0 x1 x2 0 s0 q1 M ρ = some y → ao_W Γ uX12_register (ao_rm d 0 0) (ao_Q Γ (ao_PI ρ y) 0 0) 0 0 20 [some (.ref (Γ.2.2.2 + r0)), some (.int x1), some (.int x2)] [.int s0, .ref (Γ.2.2.2 + q1)] (M, ρ)) := by
  intro n
  induction n with
  | zero => exact ⟨fun _ _ _ _ _ h => ao_no h, fun _ _ _ _ _ _ h => ao_no h, fun _ _ _ _ _ _ _ h => ao_no h⟩
  | succ n ih =>
    refine ⟨?_, ?_, ?_⟩
    · intro r0 x1 x2 M y h
      replace h := ao_ifT h rfl
      refine ao_aload_n 0 dX12_register_0 rfl rfl ?_
      refine ao_iload_n 1 dX12_register_1 rfl rfl ?_
      obtain ⟨p1, hp1, h⟩ := ao_bind h
      refine an_callSi [.int x1] (aX12_isThread (d - 1) (by omega) x1 M ρ hp1) dX12_register_2 lc_X12_503 lt_X12_isThread rfl rfl (Nat.le_of_ble_eq_true rfl) (ao_hR (by omega) (by decide)) ?_
      refine ao_if_eq 15 dX12_register_5 (by decide) (fun c2 => ?_) (fun c2 => ?_)
      · replace h := ao_ifT h c2
        exact ih.2.1 r0 x1 x2 r0 p1.2 _ h
      · replace h := ao_ifF h c2
        refine ao_iload_n 2 dX12_register_8 rfl rfl ?_
        obtain ⟨p3, hp3, h⟩ := ao_bind h
        refine an_callSi [.int x2] (aX12_isPlace (d - 1) (by omega) x2 p1.2 ρ hp3) dX12_register_9 lc_X12_509 lt_X12_isPlace rfl rfl (Nat.le_of_ble_eq_true rfl) (ao_hR (by omega) (by decide)) ?_
        refine ao_if_ne 19 dX12_register_12 (by decide) (fun c4 => ?_) (fun c4 => ?_)
        · replace h := ao_ifF h c4
          refine ao_iconst (v := 0) dX12_register_19 (by decide) ?_
          exact ih.2.2 r0 x1 x2 (0 : Int32) r0 p3.2 _ h
        · replace h := ao_ifT h c4
          exact ih.2.1 r0 x1 x2 r0 p3.2 _ h
    · intro r0 x1 x2 q0 M y h
      replace h := ao_ifF h (by decide)
      replace h := ao_ifT h rfl
      refine ao_iconst (v := 1) dX12_register_15 (by decide) ?_
      refine ao_goto 20 dX12_register_16 (by decide) ?_
      exact ih.2.2 r0 x1 x2 (1 : Int32) q0 M _ h
    · intro r0 x1 x2 s0 q1 M y h
      replace h := ao_ifF h (by decide)
      replace h := ao_ifF h (by decide)
      replace h := ao_ifT h rfl
      obtain ⟨hk5, h⟩ := ao_some h
      obtain ⟨p6, hp6, h⟩ := ao_bind h
      refine an_callVi q1 12 (q := (RX12, TX12, 83)) [.int s0] (aX12_fails (d - 1) (by omega) q1 s0 M ρ hp6) dX12_register_20 lc_X12_497 li_X12_fails ls_X12_fails rfl hk5 rfl rfl (Nat.le_of_ble_eq_true rfl) (ao_hR (by omega) (by decide)) ?_
      refine ao_if_eq 28 dX12_register_23 (by decide) (fun c7 => ?_) (fun c7 => ?_)
      · replace h := ao_ifT h c7
        refine ao_aload_n 0 dX12_register_28 rfl rfl ?_
        obtain ⟨hk8, h⟩ := ao_some h
        obtain ⟨j9, hj9, h⟩ := ao_bind h
        refine an_getR r0 12 31 (q := (RX12, TX12, 83)) dX12_register_29 rfl hk8 (Nat.le_of_ble_eq_true rfl) rfl lf_X12_193 hj9 ?_
        refine ao_iload_n 1 dX12_register_32 rfl rfl ?_
        refine ao_bipush (v := 26) dX12_register_33 (by decide) ?_
        refine ao_imul dX12_register_35 ?_
        refine ao_iload_n 2 dX12_register_36 rfl rfl ?_
        refine ao_iadd dX12_register_37 ?_
        obtain ⟨hk10, h⟩ := ao_some h
        obtain ⟨hb11, h⟩ := ao_some h
        refine an_iaload j9 dX12_register_38 hk10 hb11 ?_
        cases h
        exact ao_ireturn dX12_register_39 rfl rfl ⟨rfl, rfl⟩
      · replace h := ao_ifF h c7
        refine ao_iconst (v := 0) dX12_register_26 (by decide) ?_
        cases h
        exact ao_ireturn dX12_register_27 rfl rfl ⟨rfl, rfl⟩
set_option maxRecDepth 100000 in
set_option maxHeartbeats 4000000 in
theorem aX12_register {Γ : ao_C} (d : Nat) (hd : 1 ≤ d) (n : Nat) (r0 : Nat) (x1 : Int32) (x2 : Int32) (M : ao_M) (ρ : ao_H) {y : Int32 × ao_M} (h : gX12_register n r0 x1 x2 M ρ = some y) : ao_A Γ uX12_register d 0 0 [.ref (Γ.2.2.2 + r0), .int x1, .int x2] (M, ρ) (ao_PI ρ y) := by
  refine ao_of (by decide) (ao_cat1 (Nat.le_of_ble_eq_true rfl)) (Nat.le_of_ble_eq_true rfl) ?_
  show ao_W Γ uX12_register (ao_rm d 0 0) (ao_Q Γ (ao_PI ρ y) 0 0) 0 0 0 [some (.ref (Γ.2.2.2 + r0)), some (.int x1), some (.int x2)] [] (M, ρ)
  exact (wX12_register d hd n).1 r0 x1 x2 M y h

abbrev uX12_said : ao_Mi := (yX12_said, cX12_said, 3, (some .int), [])
def fX12_said : Nat → Nat → Nat → Int32 → Int32 → Nat → Int32 → Nat →  ao_M → ao_H → Option (Int32 × ao_M)
  | 0, _, _, _, _, _, _, _, _, _ => none
  | n + 1, pc, r0, x1, x2, q0, s0, q1, M, ρ =>
    if pc = 0 then
      if x1 < 0 then
        fX12_said n 13 r0 x1 x2 r0 0 0 M ρ
      else
        if ρ.2.1 r0 = 22 then
        if x1 < (M r0 68) then
          fX12_said n 18 r0 x1 x2 0 (0 : Int32) r0 M ρ
        else
          fX12_said n 13 r0 x1 x2 r0 0 0 M ρ
        else none
    else if pc = 13 then
      fX12_said n 18 r0 x1 x2 0 (1 : Int32) q0 M ρ
    else if pc = 18 then
      if ρ.2.1 q1 = 22 then
      (gX12_fails q1 s0 M ρ).bind fun p5 =>
      if p5.1 = 0 then
        if x2 = 0 then
          if ρ.2.1 r0 = 22 then
          (ρ.1 r0 66).bind fun j9 =>
          if ρ.2.1 j9 = 0 then
          if ¬ (x1 < 0 ∨ ρ.2.2.1 j9 ≤ x1.toNatClampNeg) then
          some ((p5.2 j9 x1.toNatClampNeg), p5.2)
          else none
          else none
          else none
        else
          if ρ.2.1 r0 = 22 then
          (ρ.1 r0 67).bind fun j13 =>
          if ρ.2.1 j13 = 0 then
          if ¬ (x1 < 0 ∨ ρ.2.2.1 j13 ≤ x1.toNatClampNeg) then
          some ((p5.2 j13 x1.toNatClampNeg), p5.2)
          else none
          else none
          else none
      else
        some ((0 : Int32), p5.2)
      else none
    else none
def gX12_said (n : Nat) (r0 : Nat) (x1 : Int32) (x2 : Int32) (M : ao_M) (ρ : ao_H) : Option (Int32 × ao_M) := fX12_said n 0 r0 x1 x2 0 0 0 M ρ
set_option maxRecDepth 100000 in
set_option maxHeartbeats 4000000 in
theorem wX12_said {Γ : ao_C} {ρ : ao_H} (d : Nat) (hd : 1 ≤ d) : ∀ n : Nat, (∀ (r0 : Nat) (x1 : Int32) (x2 : Int32) (M : ao_M) (y : Int32 × ao_M), fX12_said n 0 r0 x1 x2 0 0 0 M ρ = some y → ao_W Γ uX12_said (ao_rm d 0 0) (ao_Q Γ (ao_PI ρ y) 0 0) 0 0 0 [some (.ref (Γ.2.2.2 + r0)), some (.int x1), some (.int x2)] [] (M, ρ)) ∧ (∀ (r0 : Nat) (x1 : Int32) (x2 : Int32) (q0 : Nat) (M : ao_M) (y : Int32 × ao_M), fX12_said n 13 r0 x1 x2 q0 0 0 M ρ = some y → ao_W Γ uX12_said (ao_rm d 0 0) (ao_Q Γ (ao_PI ρ y) 0 0) 0 0 13 [some (.ref (Γ.2.2.2 + r0)), some (.int x1), some (.int x2)] [.ref (Γ.2.2.2 + q0)] (M, ρ)) ∧ (∀ (r0 : Nat) (x1 : Int32) (x2 : Int32) (s0 : Int32) (q1 : Nat) (M : ao_M) (y : Int32 × ao_M), fX12_said n 18 r0 x1 x2 0 s0 q1 M ρ = some y → ao_W Γ uX12_said (ao_rm d 0 0) (ao_Q Γ (ao_PI ρ y) 0 0) 0 0 18 [some (.ref (Γ.2.2.2 + r0)), some (.int x1), some (.int x2)] [.int s0, .ref (Γ.2.2.2 + q1)] (M, ρ)) := by
  intro n
  induction n with
  | zero => exact ⟨fun _ _ _ _ _ h => ao_no h, fun _ _ _ _ _ _ h => ao_no h, fun _ _ _ _ _ _ _ h => ao_no h⟩
  | succ n ih =>
    refine ⟨?_, ?_, ?_⟩
    · intro r0 x1 x2 M y h
      replace h := ao_ifT h rfl
      refine ao_aload_n 0 dX12_said_0 rfl rfl ?_
      refine ao_iload_n 1 dX12_said_1 rfl rfl ?_
      refine ao_if_lt 13 dX12_said_2 (by decide) (fun c1 => ?_) (fun c1 => ?_)
      · replace h := ao_ifT h c1
        exact ih.2.1 r0 x1 x2 r0 M _ h
      · replace h := ao_ifF h c1
        refine ao_iload_n 1 dX12_said_5 rfl rfl ?_
        refine ao_aload_n 0 dX12_said_6 rfl rfl ?_
        obtain ⟨hk2, h⟩ := ao_some h
        refine an_getI r0 12 68 (q := (RX12, TX12, 83)) dX12_said_7 rfl hk2 (Nat.le_of_ble_eq_true rfl) rfl lf_X12_335 ?_
        refine ao_icmp_lt 17 dX12_said_10 (by decide) (fun c3 => ?_) (fun c3 => ?_)
        · replace h := ao_ifT h c3
          refine ao_iconst (v := 0) dX12_said_17 (by decide) ?_
          exact ih.2.2 r0 x1 x2 (0 : Int32) r0 M _ h
        · replace h := ao_ifF h c3
          exact ih.2.1 r0 x1 x2 r0 M _ h
    · intro r0 x1 x2 q0 M y h
      replace h := ao_ifF h (by decide)
      replace h := ao_ifT h rfl
      refine ao_iconst (v := 1) dX12_said_13 (by decide) ?_
      refine ao_goto 18 dX12_said_14 (by decide) ?_
      exact ih.2.2 r0 x1 x2 (1 : Int32) q0 M _ h
    · intro r0 x1 x2 s0 q1 M y h
      replace h := ao_ifF h (by decide)
      replace h := ao_ifF h (by decide)
      replace h := ao_ifT h rfl
      obtain ⟨hk4, h⟩ := ao_some h
      obtain ⟨p5, hp5, h⟩ := ao_bind h
      refine an_callVi q1 12 (q := (RX12, TX12, 83)) [.int s0] (aX12_fails (d - 1) (by omega) q1 s0 M ρ hp5) dX12_said_18 lc_X12_497 li_X12_fails ls_X12_fails rfl hk4 rfl rfl (Nat.le_of_ble_eq_true rfl) (ao_hR (by omega) (by decide)) ?_
      refine ao_if_eq 26 dX12_said_21 (by decide) (fun c6 => ?_) (fun c6 => ?_)
      · replace h := ao_ifT h c6
        refine ao_iload_n 2 dX12_said_26 rfl rfl ?_
        refine ao_if_eq 39 dX12_said_27 (by decide) (fun c7 => ?_) (fun c7 => ?_)
        · replace h := ao_ifT h c7
          refine ao_aload_n 0 dX12_said_39 rfl rfl ?_
          obtain ⟨hk8, h⟩ := ao_some h
          obtain ⟨j9, hj9, h⟩ := ao_bind h
          refine an_getR r0 12 66 (q := (RX12, TX12, 83)) dX12_said_40 rfl hk8 (Nat.le_of_ble_eq_true rfl) rfl lf_X12_290 hj9 ?_
          refine ao_iload_n 1 dX12_said_43 rfl rfl ?_
          obtain ⟨hk10, h⟩ := ao_some h
          obtain ⟨hb11, h⟩ := ao_some h
          refine an_iaload j9 dX12_said_44 hk10 hb11 ?_
          cases h
          exact ao_ireturn dX12_said_45 rfl rfl ⟨rfl, rfl⟩
        · replace h := ao_ifF h c7
          refine ao_aload_n 0 dX12_said_30 rfl rfl ?_
          obtain ⟨hk12, h⟩ := ao_some h
          obtain ⟨j13, hj13, h⟩ := ao_bind h
          refine an_getR r0 12 67 (q := (RX12, TX12, 83)) dX12_said_31 rfl hk12 (Nat.le_of_ble_eq_true rfl) rfl lf_X12_293 hj13 ?_
          refine ao_iload_n 1 dX12_said_34 rfl rfl ?_
          obtain ⟨hk14, h⟩ := ao_some h
          obtain ⟨hb15, h⟩ := ao_some h
          refine an_iaload j13 dX12_said_35 hk14 hb15 ?_
          refine ao_goto 45 dX12_said_36 (by decide) ?_
          cases h
          exact ao_ireturn dX12_said_45 rfl rfl ⟨rfl, rfl⟩
      · replace h := ao_ifF h c6
        refine ao_iconst (v := 0) dX12_said_24 (by decide) ?_
        cases h
        exact ao_ireturn dX12_said_25 rfl rfl ⟨rfl, rfl⟩
set_option maxRecDepth 100000 in
set_option maxHeartbeats 4000000 in
theorem aX12_said {Γ : ao_C} (d : Nat) (hd : 1 ≤ d) (n : Nat) (r0 : Nat) (x1 : Int32) (x2 : Int32) (M : ao_M) (ρ : ao_H) {y : Int32 × ao_M} (h : gX12_said n r0 x1 x2 M ρ = some y) : ao_A Γ uX12_said d 0 0 [.ref (Γ.2.2.2 + r0), .int x1, .int x2] (M, ρ) (ao_PI ρ y) := by
  refine ao_of (by decide) (ao_cat1 (Nat.le_of_ble_eq_true rfl)) (Nat.le_of_ble_eq_true rfl) ?_
  show ao_W Γ uX12_said (ao_rm d 0 0) (ao_Q Γ (ao_PI ρ y) 0 0) 0 0 0 [some (.ref (Γ.2.2.2 + r0)), some (.int x1), some (.int x2)] [] (M, ρ)
  exact (wX12_said d hd n).1 r0 x1 x2 M y h

abbrev uX12_readsOf : ao_Mi := (yX12_readsOf, cX12_readsOf, 6, (some .int), [])
def fX12_readsOf : Nat → Nat → Nat → Int32 → Int32 → Int32 → Int32 → Int32 → Int32 →  ao_M → ao_H → Option (Int32 × ao_M)
  | 0, _, _, _, _, _, _, _, _, _, _ => none
  | n + 1, pc, r0, x1, x2, x3, x4, x5, s0, M, ρ =>
    if pc = 0 then
      if ρ.2.1 r0 = 22 then
      (ρ.1 r0 29).bind fun j2 =>
      if ρ.2.1 j2 = 0 then
      if ¬ (x1 < 0 ∨ ρ.2.2.1 j2 ≤ x1.toNatClampNeg) then
      if (M j2 x1.toNatClampNeg) = (3 : Int32) then
        fX12_readsOf n 22 r0 x1 (0 : Int32) 0 0 0 (1 : Int32) M ρ
      else
        (ρ.1 r0 34).bind fun j6 =>
        if ρ.2.1 j6 = 0 then
        if ¬ (x1 < 0 ∨ ρ.2.2.1 j6 ≤ x1.toNatClampNeg) then
        fX12_readsOf n 22 r0 x1 (0 : Int32) 0 0 0 (M j6 x1.toNatClampNeg) M ρ
        else none
        else none
      else none
      else none
      else none
    else if pc = 22 then
      fX12_readsOf n 26 r0 x1 x2 s0 (0 : Int32) 0 0 M ρ
    else if pc = 26 then
      if x3 ≤ x4 then
        some (x2, M)
      else
        fX12_readsOf n 35 r0 x1 x2 x3 x4 (0 : Int32) 0 M ρ
    else if pc = 35 then
      if (26 : Int32) ≤ x5 then
        ao_let (x4 + (1 : Int32)) fun v11 =>
        fX12_readsOf n 26 r0 x1 x2 x3 v11 0 0 M ρ
      else
        if ρ.2.1 r0 = 22 then
        (ρ.1 r0 55).bind fun j13 =>
        (gX12_cell r0 x1 x4 x5 M ρ).bind fun p14 =>
        if ρ.2.1 j13 = 2 then
        if ¬ (p14.1 < 0 ∨ ρ.2.2.1 j13 ≤ p14.1.toNatClampNeg) then
        if (p14.2 j13 p14.1.toNatClampNeg) = 0 then
          fX12_readsOf n 62 r0 x1 x2 x3 x4 x5 0 p14.2 ρ
        else
          ao_let (x2 + (1 : Int32)) fun v18 =>
          fX12_readsOf n 62 r0 x1 v18 x3 x4 x5 0 p14.2 ρ
        else none
        else none
        else none
    else if pc = 62 then
      ao_let (x5 + (1 : Int32)) fun v19 =>
      fX12_readsOf n 35 r0 x1 x2 x3 x4 v19 0 M ρ
    else none
def gX12_readsOf (n : Nat) (r0 : Nat) (x1 : Int32) (M : ao_M) (ρ : ao_H) : Option (Int32 × ao_M) := fX12_readsOf n 0 r0 x1 0 0 0 0 0 M ρ
set_option maxRecDepth 100000 in
set_option maxHeartbeats 4000000 in
theorem wX12_readsOf {Γ : ao_C} {ρ : ao_H} (d : Nat) (hd : 1 ≤ d) : ∀ n : Nat, (∀ (r0 : Nat) (x1 : Int32) (M : ao_M) (y : Int32 × ao_M), fX12_readsOf n 0 r0 x1 0 0 0 0 0 M ρ = some y → ao_W Γ uX12_readsOf (ao_rm d 0 0) (ao_Q Γ (ao_PI ρ y) 0 0) 0 0 0 [some (.ref (Γ.2.2.2 + r0)), some (.int x1), none, none, none, none] [] (M, ρ)) ∧ (∀ (r0 : Nat) (x1 : Int32) (x2 : Int32) (s0 : Int32) (M : ao_M) (y : Int32 × ao_M), fX12_readsOf n 22 r0 x1 x2 0 0 0 s0 M ρ = some y → ao_W Γ uX12_readsOf (ao_rm d 0 0) (ao_Q Γ (ao_PI ρ y) 0 0) 0 0 22 [some (.ref (Γ.2.2.2 + r0)), some (.int x1), some (.int x2), none, none, none] [.int s0] (M, ρ)) ∧ (∀ (r0 : Nat) (x1 : Int32) (x2 : Int32) (x3 : Int32) (x4 : Int32) (M : ao_M) (y : Int32 × ao_M), fX12_readsOf n 26 r0 x1 x2 x3 x4 0 0 M ρ = some y → ao_W Γ uX12_readsOf (ao_rm d 0 0) (ao_Q Γ (ao_PI ρ y) 0 0) 0 0 26 [some (.ref (Γ.2.2.2 + r0)), some (.int x1), some (.int x2), some (.int x3), some (.int x4), none] [] (M, ρ)) ∧ (∀ (r0 : Nat) (x1 : Int32) (x2 : Int32) (x3 : Int32) (x4 : Int32) (x5 : Int32) (M : ao_M) (y : Int32 × ao_M), fX12_readsOf n 35 r0 x1 x2 x3 x4 x5 0 M ρ = some y → ao_W Γ uX12_readsOf (ao_rm d 0 0) (ao_Q Γ (ao_PI ρ y) 0 0) 0 0 35 [some (.ref (Γ.2.2.2 + r0)), some (.int x1), some (.int x2), some (.int x3), some (.int x4), some (.int x5)] [] (M, ρ)) ∧ (∀ (r0 : Nat) (x1 : Int32) (x2 : Int32) (x3 : Int32) (x4 : Int32) (x5 : Int32) (M : ao_M) (y : Int32 × ao_M), fX12_readsOf n 62 r0 x1 x2 x3 x4 x5 0 M ρ = some y → ao_W Γ uX12_readsOf (ao_rm d 0 0) (ao_Q Γ (ao_PI ρ y) 0 0) 0 0 62 [some (.ref (Γ.2.2.2 + r0)), some (.int x1), some (.int x2), some (.int x3), some (.int x4), some (.int x5)] [] (M, ρ)) := by
  intro n
  induction n with
  | zero => exact ⟨fun _ _ _ _ h => ao_no h, fun _ _ _ _ _ _ h => ao_no h, fun _ _ _ _ _ _ _ h => ao_no h, fun _ _ _ _ _ _ _ _ h => ao_no h, fun _ _ _ _ _ _ _ _ h => ao_no h⟩
  | succ n ih =>
    refine ⟨?_, ?_, ?_, ?_, ?_⟩
    · intro r0 x1 M y h
      replace h := ao_ifT h rfl
      refine ao_iconst (v := 0) dX12_readsOf_0 (by decide) ?_
      refine ao_istore_n 2 (lo' := [some (.ref (Γ.2.2.2 + r0)), some (.int x1), some (.int (0 : Int32)), none, none, none]) dX12_readsOf_1 rfl (Nat.le_of_ble_eq_true rfl) rfl ?_
      refine ao_aload_n 0 dX12_readsOf_2 rfl rfl ?_
      obtain ⟨hk1, h⟩ := ao_some h
      obtain ⟨j2, hj2, h⟩ := ao_bind h
      refine an_getR r0 12 29 (q := (RX12, TX12, 83)) dX12_readsOf_3 rfl hk1 (Nat.le_of_ble_eq_true rfl) rfl lf_X12_187 hj2 ?_
      refine ao_iload_n 1 dX12_readsOf_6 rfl rfl ?_
      obtain ⟨hk3, h⟩ := ao_some h
      obtain ⟨hb4, h⟩ := ao_some h
      refine an_iaload j2 dX12_readsOf_7 hk3 hb4 ?_
      refine ao_iconst (v := 3) dX12_readsOf_8 (by decide) ?_
      refine ao_icmp_ne 16 dX12_readsOf_9 (by decide) (fun c5 => ?_) (fun c5 => ?_)
      · replace h := ao_ifF h c5
        refine ao_aload_n 0 dX12_readsOf_16 rfl rfl ?_
        obtain ⟨j6, hj6, h⟩ := ao_bind h
        refine an_getR r0 12 34 (q := (RX12, TX12, 83)) dX12_readsOf_17 rfl hk1 (Nat.le_of_ble_eq_true rfl) rfl lf_X12_202 hj6 ?_
        refine ao_iload_n 1 dX12_readsOf_20 rfl rfl ?_
        obtain ⟨hk7, h⟩ := ao_some h
        obtain ⟨hb8, h⟩ := ao_some h
        refine an_iaload j6 dX12_readsOf_21 hk7 hb8 ?_
        exact ih.2.1 r0 x1 (0 : Int32) (M j6 x1.toNatClampNeg) M _ h
      · replace h := ao_ifT h c5
        refine ao_iconst (v := 1) dX12_readsOf_12 (by decide) ?_
        refine ao_goto 22 dX12_readsOf_13 (by decide) ?_
        exact ih.2.1 r0 x1 (0 : Int32) (1 : Int32) M _ h
    · intro r0 x1 x2 s0 M y h
      replace h := ao_ifF h (by decide)
      replace h := ao_ifT h rfl
      refine ao_istore_n 3 (lo' := [some (.ref (Γ.2.2.2 + r0)), some (.int x1), some (.int x2), some (.int s0), none, none]) dX12_readsOf_22 rfl (Nat.le_of_ble_eq_true rfl) rfl ?_
      refine ao_iconst (v := 0) dX12_readsOf_23 (by decide) ?_
      refine ao_istore 4 (lo' := [some (.ref (Γ.2.2.2 + r0)), some (.int x1), some (.int x2), some (.int s0), some (.int (0 : Int32)), none]) dX12_readsOf_24 (Nat.le_of_ble_eq_true rfl) rfl ?_
      exact ih.2.2.1 r0 x1 x2 s0 (0 : Int32) M _ h
    · intro r0 x1 x2 x3 x4 M y h
      replace h := ao_ifF h (by decide)
      replace h := ao_ifF h (by decide)
      replace h := ao_ifT h rfl
      refine ao_iload 4 dX12_readsOf_26 rfl ?_
      refine ao_iload_n 3 dX12_readsOf_28 rfl rfl ?_
      refine ao_icmp_ge 74 dX12_readsOf_29 (by decide) (fun c9 => ?_) (fun c9 => ?_)
      · replace h := ao_ifT h c9
        refine ao_iload_n 2 dX12_readsOf_74 rfl rfl ?_
        cases h
        exact ao_ireturn dX12_readsOf_75 rfl rfl ⟨rfl, rfl⟩
      · replace h := ao_ifF h c9
        refine ao_iconst (v := 0) dX12_readsOf_32 (by decide) ?_
        refine ao_istore 5 (lo' := [some (.ref (Γ.2.2.2 + r0)), some (.int x1), some (.int x2), some (.int x3), some (.int x4), some (.int (0 : Int32))]) dX12_readsOf_33 (Nat.le_of_ble_eq_true rfl) rfl ?_
        exact ih.2.2.2.1 r0 x1 x2 x3 x4 (0 : Int32) M _ h
    · intro r0 x1 x2 x3 x4 x5 M y h
      replace h := ao_ifF h (by decide)
      replace h := ao_ifF h (by decide)
      replace h := ao_ifF h (by decide)
      replace h := ao_ifT h rfl
      refine ao_iload 5 dX12_readsOf_35 rfl ?_
      refine ao_bipush (v := 26) dX12_readsOf_37 (by decide) ?_
      refine ao_icmp_ge 68 dX12_readsOf_39 (by decide) (fun c10 => ?_) (fun c10 => ?_)
      · replace h := ao_ifT h c10
        obtain ⟨v11, hv11⟩ : ∃ z : Int32, z = x4 + (1 : Int32) := ⟨_, rfl⟩
        replace h := ao_letD h hv11
        refine ao_iinc 4 (v := v11) (lo' := [some (.ref (Γ.2.2.2 + r0)), some (.int x1), some (.int x2), some (.int x3), some (.int v11), some (.int x5)]) dX12_readsOf_68 rfl (by rw [hv11]; rfl) (Nat.le_of_ble_eq_true rfl) rfl ?_
        refine ao_goto 26 dX12_readsOf_71 (by decide) ?_
        refine ao_loForget (lo' := [some (.ref (Γ.2.2.2 + r0)), some (.int x1), some (.int x2), some (.int x3), some (.int v11), none]) (ao_fgS (ao_fgS (ao_fgS (ao_fgS (ao_fgS (ao_fgN ao_fgZ)))))) ?_
        exact ih.2.2.1 r0 x1 x2 x3 v11 M _ h
      · replace h := ao_ifF h c10
        refine ao_aload_n 0 dX12_readsOf_42 rfl rfl ?_
        obtain ⟨hk12, h⟩ := ao_some h
        obtain ⟨j13, hj13, h⟩ := ao_bind h
        refine an_getR r0 12 55 (q := (RX12, TX12, 83)) dX12_readsOf_43 rfl hk12 (Nat.le_of_ble_eq_true rfl) rfl lf_X12_266 hj13 ?_
        refine ao_aload_n 0 dX12_readsOf_46 rfl rfl ?_
        refine ao_iload_n 1 dX12_readsOf_47 rfl rfl ?_
        refine ao_iload 4 dX12_readsOf_48 rfl ?_
        refine ao_iload 5 dX12_readsOf_50 rfl ?_
        obtain ⟨p14, hp14, h⟩ := ao_bind h
        refine an_callVi r0 12 (q := (RX12, TX12, 83)) [.int x1, .int x4, .int x5] (aX12_cell (d - 1) (by omega) r0 x1 x4 x5 M ρ hp14) dX12_readsOf_52 lc_X12_357 li_X12_cell ls_X12_cell rfl hk12 rfl rfl (Nat.le_of_ble_eq_true rfl) (ao_hR (by omega) (by decide)) ?_
        obtain ⟨hk15, h⟩ := ao_some h
        obtain ⟨hb16, h⟩ := ao_some h
        refine an_zaload j13 dX12_readsOf_55 hk15 hb16 ?_
        refine ao_if_eq 62 dX12_readsOf_56 (by decide) (fun c17 => ?_) (fun c17 => ?_)
        · replace h := ao_ifT h c17
          exact ih.2.2.2.2 r0 x1 x2 x3 x4 x5 p14.2 _ h
        · replace h := ao_ifF h c17
          obtain ⟨v18, hv18⟩ : ∃ z : Int32, z = x2 + (1 : Int32) := ⟨_, rfl⟩
          replace h := ao_letD h hv18
          refine ao_iinc 2 (v := v18) (lo' := [some (.ref (Γ.2.2.2 + r0)), some (.int x1), some (.int v18), some (.int x3), some (.int x4), some (.int x5)]) dX12_readsOf_59 rfl (by rw [hv18]; rfl) (Nat.le_of_ble_eq_true rfl) rfl ?_
          exact ih.2.2.2.2 r0 x1 v18 x3 x4 x5 p14.2 _ h
    · intro r0 x1 x2 x3 x4 x5 M y h
      replace h := ao_ifF h (by decide)
      replace h := ao_ifF h (by decide)
      replace h := ao_ifF h (by decide)
      replace h := ao_ifF h (by decide)
      replace h := ao_ifT h rfl
      obtain ⟨v19, hv19⟩ : ∃ z : Int32, z = x5 + (1 : Int32) := ⟨_, rfl⟩
      replace h := ao_letD h hv19
      refine ao_iinc 5 (v := v19) (lo' := [some (.ref (Γ.2.2.2 + r0)), some (.int x1), some (.int x2), some (.int x3), some (.int x4), some (.int v19)]) dX12_readsOf_62 rfl (by rw [hv19]; rfl) (Nat.le_of_ble_eq_true rfl) rfl ?_
      refine ao_goto 35 dX12_readsOf_65 (by decide) ?_
      exact ih.2.2.2.1 r0 x1 x2 x3 x4 v19 M _ h
set_option maxRecDepth 100000 in
set_option maxHeartbeats 4000000 in
theorem aX12_readsOf {Γ : ao_C} (d : Nat) (hd : 1 ≤ d) (n : Nat) (r0 : Nat) (x1 : Int32) (M : ao_M) (ρ : ao_H) {y : Int32 × ao_M} (h : gX12_readsOf n r0 x1 M ρ = some y) : ao_A Γ uX12_readsOf d 0 0 [.ref (Γ.2.2.2 + r0), .int x1] (M, ρ) (ao_PI ρ y) := by
  refine ao_of (by decide) (ao_cat1 (Nat.le_of_ble_eq_true rfl)) (Nat.le_of_ble_eq_true rfl) ?_
  show ao_W Γ uX12_readsOf (ao_rm d 0 0) (ao_Q Γ (ao_PI ρ y) 0 0) 0 0 0 [some (.ref (Γ.2.2.2 + r0)), some (.int x1), none, none, none, none] [] (M, ρ)
  exact (wX12_readsOf d hd n).1 r0 x1 M y h

abbrev uX12_writesOf : ao_Mi := (yX12_writesOf, cX12_writesOf, 4, (some .int), [])
def fX12_writesOf : Nat → Nat → Nat → Int32 → Int32 → Int32 →  ao_M → ao_H → Option (Int32 × ao_M)
  | 0, _, _, _, _, _, _, _ => none
  | n + 1, pc, r0, x1, x2, x3, M, ρ =>
    if pc = 0 then
      fX12_writesOf n 4 r0 x1 (0 : Int32) (0 : Int32) M ρ
    else if pc = 4 then
      if (26 : Int32) ≤ x3 then
        some (x2, M)
      else
        if ρ.2.1 r0 = 22 then
        (gX12_writtenLevel n r0 x1 x3 M ρ).bind fun p3 =>
        if p3.1 < 0 then
          fX12_writesOf n 22 r0 x1 x2 x3 p3.2 ρ
        else
          ao_let (x2 + (1 : Int32)) fun v5 =>
          fX12_writesOf n 22 r0 x1 v5 x3 p3.2 ρ
        else none
    else if pc = 22 then
      ao_let (x3 + (1 : Int32)) fun v6 =>
      fX12_writesOf n 4 r0 x1 x2 v6 M ρ
    else none
def gX12_writesOf (n : Nat) (r0 : Nat) (x1 : Int32) (M : ao_M) (ρ : ao_H) : Option (Int32 × ao_M) := fX12_writesOf n 0 r0 x1 0 0 M ρ
set_option maxRecDepth 100000 in
set_option maxHeartbeats 4000000 in
theorem wX12_writesOf {Γ : ao_C} {ρ : ao_H} (d : Nat) (hd : 2 ≤ d) : ∀ n : Nat, (∀ (r0 : Nat) (x1 : Int32) (M : ao_M) (y : Int32 × ao_M), fX12_writesOf n 0 r0 x1 0 0 M ρ = some y → ao_W Γ uX12_writesOf (ao_rm d 0 0) (ao_Q Γ (ao_PI ρ y) 0 0) 0 0 0 [some (.ref (Γ.2.2.2 + r0)), some (.int x1), none, none] [] (M, ρ)) ∧ (∀ (r0 : Nat) (x1 : Int32) (x2 : Int32) (x3 : Int32) (M : ao_M) (y : Int32 × ao_M), fX12_writesOf n 4 r0 x1 x2 x3 M ρ = some y → ao_W Γ uX12_writesOf (ao_rm d 0 0) (ao_Q Γ (ao_PI ρ y) 0 0) 0 0 4 [some (.ref (Γ.2.2.2 + r0)), some (.int x1), some (.int x2), some (.int x3)] [] (M, ρ)) ∧ (∀ (r0 : Nat) (x1 : Int32) (x2 : Int32) (x3 : Int32) (M : ao_M) (y : Int32 × ao_M), fX12_writesOf n 22 r0 x1 x2 x3 M ρ = some y → ao_W Γ uX12_writesOf (ao_rm d 0 0) (ao_Q Γ (ao_PI ρ y) 0 0) 0 0 22 [some (.ref (Γ.2.2.2 + r0)), some (.int x1), some (.int x2), some (.int x3)] [] (M, ρ)) := by
  intro n
  induction n with
  | zero => exact ⟨fun _ _ _ _ h => ao_no h, fun _ _ _ _ _ _ h => ao_no h, fun _ _ _ _ _ _ h => ao_no h⟩
  | succ n ih =>
    refine ⟨?_, ?_, ?_⟩
    · intro r0 x1 M y h
      replace h := ao_ifT h rfl
      refine ao_iconst (v := 0) dX12_writesOf_0 (by decide) ?_
      refine ao_istore_n 2 (lo' := [some (.ref (Γ.2.2.2 + r0)), some (.int x1), some (.int (0 : Int32)), none]) dX12_writesOf_1 rfl (Nat.le_of_ble_eq_true rfl) rfl ?_
      refine ao_iconst (v := 0) dX12_writesOf_2 (by decide) ?_
      refine ao_istore_n 3 (lo' := [some (.ref (Γ.2.2.2 + r0)), some (.int x1), some (.int (0 : Int32)), some (.int (0 : Int32))]) dX12_writesOf_3 rfl (Nat.le_of_ble_eq_true rfl) rfl ?_
      exact ih.2.1 r0 x1 (0 : Int32) (0 : Int32) M _ h
    · intro r0 x1 x2 x3 M y h
      replace h := ao_ifF h (by decide)
      replace h := ao_ifT h rfl
      refine ao_iload_n 3 dX12_writesOf_4 rfl rfl ?_
      refine ao_bipush (v := 26) dX12_writesOf_5 (by decide) ?_
      refine ao_icmp_ge 28 dX12_writesOf_7 (by decide) (fun c1 => ?_) (fun c1 => ?_)
      · replace h := ao_ifT h c1
        refine ao_iload_n 2 dX12_writesOf_28 rfl rfl ?_
        cases h
        exact ao_ireturn dX12_writesOf_29 rfl rfl ⟨rfl, rfl⟩
      · replace h := ao_ifF h c1
        refine ao_aload_n 0 dX12_writesOf_10 rfl rfl ?_
        refine ao_iload_n 1 dX12_writesOf_11 rfl rfl ?_
        refine ao_iload_n 3 dX12_writesOf_12 rfl rfl ?_
        obtain ⟨hk2, h⟩ := ao_some h
        obtain ⟨p3, hp3, h⟩ := ao_bind h
        refine an_callVi r0 12 (q := (RX12, TX12, 83)) [.int x1, .int x3] (aX12_writtenLevel (d - 1) (by omega) _ r0 x1 x3 M ρ hp3) dX12_writesOf_13 lc_X12_402 li_X12_writtenLevel ls_X12_writtenLevel rfl hk2 rfl rfl (Nat.le_of_ble_eq_true rfl) (ao_hR (by omega) (by decide)) ?_
        refine ao_if_lt 22 dX12_writesOf_16 (by decide) (fun c4 => ?_) (fun c4 => ?_)
        · replace h := ao_ifT h c4
          exact ih.2.2 r0 x1 x2 x3 p3.2 _ h
        · replace h := ao_ifF h c4
          obtain ⟨v5, hv5⟩ : ∃ z : Int32, z = x2 + (1 : Int32) := ⟨_, rfl⟩
          replace h := ao_letD h hv5
          refine ao_iinc 2 (v := v5) (lo' := [some (.ref (Γ.2.2.2 + r0)), some (.int x1), some (.int v5), some (.int x3)]) dX12_writesOf_19 rfl (by rw [hv5]; rfl) (Nat.le_of_ble_eq_true rfl) rfl ?_
          exact ih.2.2 r0 x1 v5 x3 p3.2 _ h
    · intro r0 x1 x2 x3 M y h
      replace h := ao_ifF h (by decide)
      replace h := ao_ifF h (by decide)
      replace h := ao_ifT h rfl
      obtain ⟨v6, hv6⟩ : ∃ z : Int32, z = x3 + (1 : Int32) := ⟨_, rfl⟩
      replace h := ao_letD h hv6
      refine ao_iinc 3 (v := v6) (lo' := [some (.ref (Γ.2.2.2 + r0)), some (.int x1), some (.int x2), some (.int v6)]) dX12_writesOf_22 rfl (by rw [hv6]; rfl) (Nat.le_of_ble_eq_true rfl) rfl ?_
      refine ao_goto 4 dX12_writesOf_25 (by decide) ?_
      exact ih.2.1 r0 x1 x2 v6 M _ h
set_option maxRecDepth 100000 in
set_option maxHeartbeats 4000000 in
theorem aX12_writesOf {Γ : ao_C} (d : Nat) (hd : 2 ≤ d) (n : Nat) (r0 : Nat) (x1 : Int32) (M : ao_M) (ρ : ao_H) {y : Int32 × ao_M} (h : gX12_writesOf n r0 x1 M ρ = some y) : ao_A Γ uX12_writesOf d 0 0 [.ref (Γ.2.2.2 + r0), .int x1] (M, ρ) (ao_PI ρ y) := by
  refine ao_of (by decide) (ao_cat1 (Nat.le_of_ble_eq_true rfl)) (Nat.le_of_ble_eq_true rfl) ?_
  show ao_W Γ uX12_writesOf (ao_rm d 0 0) (ao_Q Γ (ao_PI ρ y) 0 0) 0 0 0 [some (.ref (Γ.2.2.2 + r0)), some (.int x1), none, none] [] (M, ρ)
  exact (wX12_writesOf d hd n).1 r0 x1 M y h

abbrev uX12_look : ao_Mi := (yX12_look, cX12_look, 3, (some .int), [])
def fX12_look : Nat → Nat → Nat → Int32 → Int32 → Nat → Int32 → Nat →  ao_M → ao_H → Option (Int32 × ao_M)
  | 0, _, _, _, _, _, _, _, _, _ => none
  | n + 1, pc, r0, x1, x2, q0, s0, q1, M, ρ =>
    if pc = 0 then
      (gX12_isThread x1 M ρ).bind fun p1 =>
      if p1.1 = 0 then
        fX12_look n 18 r0 x1 x2 r0 0 0 p1.2 ρ
      else
        if x2 < 0 then
          fX12_look n 18 r0 x1 x2 r0 0 0 p1.2 ρ
        else
          if x2 ≤ (7 : Int32) then
            fX12_look n 23 r0 x1 x2 0 (0 : Int32) r0 p1.2 ρ
          else
            fX12_look n 18 r0 x1 x2 r0 0 0 p1.2 ρ
    else if pc = 18 then
      fX12_look n 23 r0 x1 x2 0 (1 : Int32) q0 M ρ
    else if pc = 23 then
      if ρ.2.1 q1 = 22 then
      (gX12_fails q1 s0 M ρ).bind fun p6 =>
      if p6.1 = 0 then
        if x2 = (0 : Int32) then
          if ρ.2.1 r0 = 22 then
          (ρ.1 r0 29).bind fun j10 =>
          if ρ.2.1 j10 = 0 then
          if ¬ (x1 < 0 ∨ ρ.2.2.1 j10 ≤ x1.toNatClampNeg) then
          some ((p6.2 j10 x1.toNatClampNeg), p6.2)
          else none
          else none
          else none
        else
          if x2 = (1 : Int32) then
            if ρ.2.1 r0 = 22 then
            (ρ.1 r0 34).bind fun j15 =>
            if ρ.2.1 j15 = 0 then
            if ¬ (x1 < 0 ∨ ρ.2.2.1 j15 ≤ x1.toNatClampNeg) then
            some ((p6.2 j15 x1.toNatClampNeg), p6.2)
            else none
            else none
            else none
          else
            if x2 = (2 : Int32) then
              if ρ.2.1 r0 = 22 then
              (gX12_readsOf n r0 x1 p6.2 ρ).bind fun p20 =>
              some (p20.1, p20.2)
              else none
            else
              if x2 = (3 : Int32) then
                if ρ.2.1 r0 = 22 then
                (gX12_writesOf n r0 x1 p6.2 ρ).bind fun p23 =>
                some (p23.1, p23.2)
                else none
              else
                if x2 = (4 : Int32) then
                  if ρ.2.1 r0 = 22 then
                  (ρ.1 r0 37).bind fun j26 =>
                  if ρ.2.1 j26 = 0 then
                  if ¬ (x1 < 0 ∨ ρ.2.2.1 j26 ≤ x1.toNatClampNeg) then
                  some ((p6.2 j26 x1.toNatClampNeg), p6.2)
                  else none
                  else none
                  else none
                else
                  if x2 = (5 : Int32) then
                    if ρ.2.1 r0 = 22 then
                    (ρ.1 r0 29).bind fun j31 =>
                    if ρ.2.1 j31 = 0 then
                    if ¬ (x1 < 0 ∨ ρ.2.2.1 j31 ≤ x1.toNatClampNeg) then
                    if (p6.2 j31 x1.toNatClampNeg) = (2 : Int32) then
                      (ρ.1 r0 38).bind fun j35 =>
                      if ρ.2.1 j35 = 0 then
                      if ¬ (x1 < 0 ∨ ρ.2.2.1 j35 ≤ x1.toNatClampNeg) then
                      some ((p6.2 j35 x1.toNatClampNeg), p6.2)
                      else none
                      else none
                    else
                      some ((0 : Int32), p6.2)
                    else none
                    else none
                    else none
                  else
                    if x2 = (6 : Int32) then
                      if ρ.2.1 r0 = 22 then
                      (ρ.1 r0 39).bind fun j40 =>
                      if ρ.2.1 j40 = 0 then
                      if ¬ (x1 < 0 ∨ ρ.2.2.1 j40 ≤ x1.toNatClampNeg) then
                      some ((p6.2 j40 x1.toNatClampNeg), p6.2)
                      else none
                      else none
                      else none
                    else
                      if ρ.2.1 r0 = 22 then
                      (ρ.1 r0 40).bind fun j44 =>
                      if ρ.2.1 j44 = 0 then
                      if ¬ (x1 < 0 ∨ ρ.2.2.1 j44 ≤ x1.toNatClampNeg) then
                      some ((p6.2 j44 x1.toNatClampNeg), p6.2)
                      else none
                      else none
                      else none
      else
        some ((0 : Int32), p6.2)
      else none
    else none
def gX12_look (n : Nat) (r0 : Nat) (x1 : Int32) (x2 : Int32) (M : ao_M) (ρ : ao_H) : Option (Int32 × ao_M) := fX12_look n 0 r0 x1 x2 0 0 0 M ρ
set_option maxRecDepth 100000 in
set_option maxHeartbeats 4000000 in
theorem wX12_look {Γ : ao_C} {ρ : ao_H} (d : Nat) (hd : 3 ≤ d) : ∀ n : Nat, (∀ (r0 : Nat) (x1 : Int32) (x2 : Int32) (M : ao_M) (y : Int32 × ao_M), fX12_look n 0 r0 x1 x2 0 0 0 M ρ = some y → ao_W Γ uX12_look (ao_rm d 0 0) (ao_Q Γ (ao_PI ρ y) 0 0) 0 0 0 [some (.ref (Γ.2.2.2 + r0)), some (.int x1), some (.int x2)] [] (M, ρ)) ∧ (∀ (r0 : Nat) (x1 : Int32) (x2 : Int32) (q0 : Nat) (M : ao_M) (y : Int32 × ao_M), fX12_look n 18 r0 x1 x2 q0 0 0 M ρ = some y → ao_W Γ uX12_look (ao_rm d 0 0) (ao_Q Γ (ao_PI ρ y) 0 0) 0 0 18 [some (.ref (Γ.2.2.2 + r0)), some (.int x1), some (.int x2)] [.ref (Γ.2.2.2 + q0)] (M, ρ)) ∧ (∀ (r0 : Nat) (x1 : Int32) (x2 : Int32) (s0 : Int32) (q1 : Nat) (M : ao_M) (y : Int32 × ao_M), fX12_look n 23 r0 x1 x2 0 s0 q1 M ρ = some y → ao_W Γ uX12_look (ao_rm d 0 0) (ao_Q Γ (ao_PI ρ y) 0 0) 0 0 23 [some (.ref (Γ.2.2.2 + r0)), some (.int x1), some (.int x2)] [.int s0, .ref (Γ.2.2.2 + q1)] (M, ρ)) := by
  intro n
  induction n with
  | zero => exact ⟨fun _ _ _ _ _ h => ao_no h, fun _ _ _ _ _ _ h => ao_no h, fun _ _ _ _ _ _ _ h => ao_no h⟩
  | succ n ih =>
    refine ⟨?_, ?_, ?_⟩
    · intro r0 x1 x2 M y h
      replace h := ao_ifT h rfl
      refine ao_aload_n 0 dX12_look_0 rfl rfl ?_
      refine ao_iload_n 1 dX12_look_1 rfl rfl ?_
      obtain ⟨p1, hp1, h⟩ := ao_bind h
      refine an_callSi [.int x1] (aX12_isThread (d - 1) (by omega) x1 M ρ hp1) dX12_look_2 lc_X12_503 lt_X12_isThread rfl rfl (Nat.le_of_ble_eq_true rfl) (ao_hR (by omega) (by decide)) ?_
      refine ao_if_eq 18 dX12_look_5 (by decide) (fun c2 => ?_) (fun c2 => ?_)
      · replace h := ao_ifT h c2
        exact ih.2.1 r0 x1 x2 r0 p1.2 _ h
      · replace h := ao_ifF h c2
        refine ao_iload_n 2 dX12_look_8 rfl rfl ?_
        refine ao_if_lt 18 dX12_look_9 (by decide) (fun c3 => ?_) (fun c3 => ?_)
        · replace h := ao_ifT h c3
          exact ih.2.1 r0 x1 x2 r0 p1.2 _ h
        · replace h := ao_ifF h c3
          refine ao_iload_n 2 dX12_look_12 rfl rfl ?_
          refine ao_bipush (v := 7) dX12_look_13 (by decide) ?_
          refine ao_icmp_le 22 dX12_look_15 (by decide) (fun c4 => ?_) (fun c4 => ?_)
          · replace h := ao_ifT h c4
            refine ao_iconst (v := 0) dX12_look_22 (by decide) ?_
            exact ih.2.2 r0 x1 x2 (0 : Int32) r0 p1.2 _ h
          · replace h := ao_ifF h c4
            exact ih.2.1 r0 x1 x2 r0 p1.2 _ h
    · intro r0 x1 x2 q0 M y h
      replace h := ao_ifF h (by decide)
      replace h := ao_ifT h rfl
      refine ao_iconst (v := 1) dX12_look_18 (by decide) ?_
      refine ao_goto 23 dX12_look_19 (by decide) ?_
      exact ih.2.2 r0 x1 x2 (1 : Int32) q0 M _ h
    · intro r0 x1 x2 s0 q1 M y h
      replace h := ao_ifF h (by decide)
      replace h := ao_ifF h (by decide)
      replace h := ao_ifT h rfl
      obtain ⟨hk5, h⟩ := ao_some h
      obtain ⟨p6, hp6, h⟩ := ao_bind h
      refine an_callVi q1 12 (q := (RX12, TX12, 83)) [.int s0] (aX12_fails (d - 1) (by omega) q1 s0 M ρ hp6) dX12_look_23 lc_X12_497 li_X12_fails ls_X12_fails rfl hk5 rfl rfl (Nat.le_of_ble_eq_true rfl) (ao_hR (by omega) (by decide)) ?_
      refine ao_if_eq 31 dX12_look_26 (by decide) (fun c7 => ?_) (fun c7 => ?_)
      · replace h := ao_ifT h c7
        refine ao_iload_n 2 dX12_look_31 rfl rfl ?_
        by_cases c8 : x2 = (0 : Int32)
        · replace h := ao_ifT h c8
          refine ao_tableIn 76 dX12_look_32 (by rw [c8]; decide) (by rw [c8]; decide) (by rw [c8]; rfl) (by decide) ?_
          refine ao_aload_n 0 dX12_look_76 rfl rfl ?_
          obtain ⟨hk9, h⟩ := ao_some h
          obtain ⟨j10, hj10, h⟩ := ao_bind h
          refine an_getR r0 12 29 (q := (RX12, TX12, 83)) dX12_look_77 rfl hk9 (Nat.le_of_ble_eq_true rfl) rfl lf_X12_187 hj10 ?_
          refine ao_iload_n 1 dX12_look_80 rfl rfl ?_
          obtain ⟨hk11, h⟩ := ao_some h
          obtain ⟨hb12, h⟩ := ao_some h
          refine an_iaload j10 dX12_look_81 hk11 hb12 ?_
          cases h
          exact ao_ireturn dX12_look_82 rfl rfl ⟨rfl, rfl⟩
        · replace h := ao_ifF h c8
          by_cases c13 : x2 = (1 : Int32)
          · replace h := ao_ifT h c13
            refine ao_tableIn 83 dX12_look_32 (by rw [c13]; decide) (by rw [c13]; decide) (by rw [c13]; rfl) (by decide) ?_
            refine ao_aload_n 0 dX12_look_83 rfl rfl ?_
            obtain ⟨hk14, h⟩ := ao_some h
            obtain ⟨j15, hj15, h⟩ := ao_bind h
            refine an_getR r0 12 34 (q := (RX12, TX12, 83)) dX12_look_84 rfl hk14 (Nat.le_of_ble_eq_true rfl) rfl lf_X12_202 hj15 ?_
            refine ao_iload_n 1 dX12_look_87 rfl rfl ?_
            obtain ⟨hk16, h⟩ := ao_some h
            obtain ⟨hb17, h⟩ := ao_some h
            refine an_iaload j15 dX12_look_88 hk16 hb17 ?_
            cases h
            exact ao_ireturn dX12_look_89 rfl rfl ⟨rfl, rfl⟩
          · replace h := ao_ifF h c13
            by_cases c18 : x2 = (2 : Int32)
            · replace h := ao_ifT h c18
              refine ao_tableIn 90 dX12_look_32 (by rw [c18]; decide) (by rw [c18]; decide) (by rw [c18]; rfl) (by decide) ?_
              refine ao_aload_n 0 dX12_look_90 rfl rfl ?_
              refine ao_iload_n 1 dX12_look_91 rfl rfl ?_
              obtain ⟨hk19, h⟩ := ao_some h
              obtain ⟨p20, hp20, h⟩ := ao_bind h
              refine an_callVi r0 12 (q := (RX12, TX12, 83)) [.int x1] (aX12_readsOf (d - 1) (by omega) _ r0 x1 p6.2 ρ hp20) dX12_look_92 lc_X12_518 li_X12_readsOf ls_X12_readsOf rfl hk19 rfl rfl (Nat.le_of_ble_eq_true rfl) (ao_hR (by omega) (by decide)) ?_
              cases h
              exact ao_ireturn dX12_look_95 rfl rfl ⟨rfl, rfl⟩
            · replace h := ao_ifF h c18
              by_cases c21 : x2 = (3 : Int32)
              · replace h := ao_ifT h c21
                refine ao_tableIn 96 dX12_look_32 (by rw [c21]; decide) (by rw [c21]; decide) (by rw [c21]; rfl) (by decide) ?_
                refine ao_aload_n 0 dX12_look_96 rfl rfl ?_
                refine ao_iload_n 1 dX12_look_97 rfl rfl ?_
                obtain ⟨hk22, h⟩ := ao_some h
                obtain ⟨p23, hp23, h⟩ := ao_bind h
                refine an_callVi r0 12 (q := (RX12, TX12, 83)) [.int x1] (aX12_writesOf (d - 1) (by omega) _ r0 x1 p6.2 ρ hp23) dX12_look_98 lc_X12_521 li_X12_writesOf ls_X12_writesOf rfl hk22 rfl rfl (Nat.le_of_ble_eq_true rfl) (ao_hR (by omega) (by decide)) ?_
                cases h
                exact ao_ireturn dX12_look_101 rfl rfl ⟨rfl, rfl⟩
              · replace h := ao_ifF h c21
                by_cases c24 : x2 = (4 : Int32)
                · replace h := ao_ifT h c24
                  refine ao_tableIn 102 dX12_look_32 (by rw [c24]; decide) (by rw [c24]; decide) (by rw [c24]; rfl) (by decide) ?_
                  refine ao_aload_n 0 dX12_look_102 rfl rfl ?_
                  obtain ⟨hk25, h⟩ := ao_some h
                  obtain ⟨j26, hj26, h⟩ := ao_bind h
                  refine an_getR r0 12 37 (q := (RX12, TX12, 83)) dX12_look_103 rfl hk25 (Nat.le_of_ble_eq_true rfl) rfl lf_X12_211 hj26 ?_
                  refine ao_iload_n 1 dX12_look_106 rfl rfl ?_
                  obtain ⟨hk27, h⟩ := ao_some h
                  obtain ⟨hb28, h⟩ := ao_some h
                  refine an_iaload j26 dX12_look_107 hk27 hb28 ?_
                  cases h
                  exact ao_ireturn dX12_look_108 rfl rfl ⟨rfl, rfl⟩
                · replace h := ao_ifF h c24
                  by_cases c29 : x2 = (5 : Int32)
                  · replace h := ao_ifT h c29
                    refine ao_tableIn 109 dX12_look_32 (by rw [c29]; decide) (by rw [c29]; decide) (by rw [c29]; rfl) (by decide) ?_
                    refine ao_aload_n 0 dX12_look_109 rfl rfl ?_
                    obtain ⟨hk30, h⟩ := ao_some h
                    obtain ⟨j31, hj31, h⟩ := ao_bind h
                    refine an_getR r0 12 29 (q := (RX12, TX12, 83)) dX12_look_110 rfl hk30 (Nat.le_of_ble_eq_true rfl) rfl lf_X12_187 hj31 ?_
                    refine ao_iload_n 1 dX12_look_113 rfl rfl ?_
                    obtain ⟨hk32, h⟩ := ao_some h
                    obtain ⟨hb33, h⟩ := ao_some h
                    refine an_iaload j31 dX12_look_114 hk32 hb33 ?_
                    refine ao_iconst (v := 2) dX12_look_115 (by decide) ?_
                    refine ao_icmp_ne 128 dX12_look_116 (by decide) (fun c34 => ?_) (fun c34 => ?_)
                    · replace h := ao_ifF h c34
                      refine ao_iconst (v := 0) dX12_look_128 (by decide) ?_
                      cases h
                      exact ao_ireturn dX12_look_129 rfl rfl ⟨rfl, rfl⟩
                    · replace h := ao_ifT h c34
                      refine ao_aload_n 0 dX12_look_119 rfl rfl ?_
                      obtain ⟨j35, hj35, h⟩ := ao_bind h
                      refine an_getR r0 12 38 (q := (RX12, TX12, 83)) dX12_look_120 rfl hk30 (Nat.le_of_ble_eq_true rfl) rfl lf_X12_214 hj35 ?_
                      refine ao_iload_n 1 dX12_look_123 rfl rfl ?_
                      obtain ⟨hk36, h⟩ := ao_some h
                      obtain ⟨hb37, h⟩ := ao_some h
                      refine an_iaload j35 dX12_look_124 hk36 hb37 ?_
                      refine ao_goto 129 dX12_look_125 (by decide) ?_
                      cases h
                      exact ao_ireturn dX12_look_129 rfl rfl ⟨rfl, rfl⟩
                  · replace h := ao_ifF h c29
                    by_cases c38 : x2 = (6 : Int32)
                    · replace h := ao_ifT h c38
                      refine ao_tableIn 130 dX12_look_32 (by rw [c38]; decide) (by rw [c38]; decide) (by rw [c38]; rfl) (by decide) ?_
                      refine ao_aload_n 0 dX12_look_130 rfl rfl ?_
                      obtain ⟨hk39, h⟩ := ao_some h
                      obtain ⟨j40, hj40, h⟩ := ao_bind h
                      refine an_getR r0 12 39 (q := (RX12, TX12, 83)) dX12_look_131 rfl hk39 (Nat.le_of_ble_eq_true rfl) rfl lf_X12_217 hj40 ?_
                      refine ao_iload_n 1 dX12_look_134 rfl rfl ?_
                      obtain ⟨hk41, h⟩ := ao_some h
                      obtain ⟨hb42, h⟩ := ao_some h
                      refine an_iaload j40 dX12_look_135 hk41 hb42 ?_
                      cases h
                      exact ao_ireturn dX12_look_136 rfl rfl ⟨rfl, rfl⟩
                    · replace h := ao_ifF h c38
                      refine ao_tableOut 137 dX12_look_32 (by have nc8 := ao_ne (z := 0) c8 (by decide); have nc13 := ao_ne (z := 1) c13 (by decide); have nc18 := ao_ne (z := 2) c18 (by decide); have nc21 := ao_ne (z := 3) c21 (by decide); have nc24 := ao_ne (z := 4) c24 (by decide); have nc29 := ao_ne (z := 5) c29 (by decide); have nc38 := ao_ne (z := 6) c38 (by decide); omega) (by decide) ?_
                      refine ao_aload_n 0 dX12_look_137 rfl rfl ?_
                      obtain ⟨hk43, h⟩ := ao_some h
                      obtain ⟨j44, hj44, h⟩ := ao_bind h
                      refine an_getR r0 12 40 (q := (RX12, TX12, 83)) dX12_look_138 rfl hk43 (Nat.le_of_ble_eq_true rfl) rfl lf_X12_220 hj44 ?_
                      refine ao_iload_n 1 dX12_look_141 rfl rfl ?_
                      obtain ⟨hk45, h⟩ := ao_some h
                      obtain ⟨hb46, h⟩ := ao_some h
                      refine an_iaload j44 dX12_look_142 hk45 hb46 ?_
                      cases h
                      exact ao_ireturn dX12_look_143 rfl rfl ⟨rfl, rfl⟩
      · replace h := ao_ifF h c7
        refine ao_iconst (v := 0) dX12_look_29 (by decide) ?_
        cases h
        exact ao_ireturn dX12_look_30 rfl rfl ⟨rfl, rfl⟩
set_option maxRecDepth 100000 in
set_option maxHeartbeats 4000000 in
theorem aX12_look {Γ : ao_C} (d : Nat) (hd : 3 ≤ d) (n : Nat) (r0 : Nat) (x1 : Int32) (x2 : Int32) (M : ao_M) (ρ : ao_H) {y : Int32 × ao_M} (h : gX12_look n r0 x1 x2 M ρ = some y) : ao_A Γ uX12_look d 0 0 [.ref (Γ.2.2.2 + r0), .int x1, .int x2] (M, ρ) (ao_PI ρ y) := by
  refine ao_of (by decide) (ao_cat1 (Nat.le_of_ble_eq_true rfl)) (Nat.le_of_ble_eq_true rfl) ?_
  show ao_W Γ uX12_look (ao_rm d 0 0) (ao_Q Γ (ao_PI ρ y) 0 0) 0 0 0 [some (.ref (Γ.2.2.2 + r0)), some (.int x1), some (.int x2)] [] (M, ρ)
  exact (wX12_look d hd n).1 r0 x1 x2 M y h

abbrev uX12_mayCome : ao_Mi := (yX12_mayCome, cX12_mayCome, 4, (some .boolean), [])
def fX12_mayCome : Nat → Nat → Nat → Int32 → Int32 → Int32 →  ao_M → ao_H → Option (Int32 × ao_M)
  | 0, _, _, _, _, _, _, _ => none
  | n + 1, pc, r0, x1, x2, x3, M, ρ =>
    if pc = 0 then
      if ρ.2.1 r0 = 22 then
      (ρ.1 r0 81).bind fun j2 =>
      if ρ.2.1 j2 = 2 then
      if ¬ (x1 < 0 ∨ ρ.2.2.1 j2 ≤ x1.toNatClampNeg) then
      if (M j2 x1.toNatClampNeg) = 0 then
        fX12_mayCome n 13 r0 x1 x2 (0 : Int32) M ρ
      else
        some ((0 : Int32), M)
      else none
      else none
      else none
    else if pc = 13 then
      if ρ.2.1 r0 = 22 then
      if (M r0 76) ≤ x3 then
        fX12_mayCome n 60 r0 x1 x2 (0 : Int32) M ρ
      else
        (ρ.1 r0 81).bind fun j8 =>
        if ρ.2.1 j8 = 2 then
        if ¬ (x3 < 0 ∨ ρ.2.2.1 j8 ≤ x3.toNatClampNeg) then
        if (M j8 x3.toNatClampNeg) = 0 then
          if x3 = x1 then
            fX12_mayCome n 52 r0 x1 x2 x3 M ρ
          else
            (ρ.1 r0 71).bind fun j13 =>
            if ρ.2.1 j13 = 0 then
            if ¬ (x3 < 0 ∨ ρ.2.2.1 j13 ≤ x3.toNatClampNeg) then
            (ρ.1 r0 70).bind fun j16 =>
            if ρ.2.1 j16 = 0 then
            if ¬ (x1 < 0 ∨ ρ.2.2.1 j16 ≤ x1.toNatClampNeg) then
            if (M j16 x1.toNatClampNeg) ≤ (M j13 x3.toNatClampNeg) then
              fX12_mayCome n 52 r0 x1 x2 x3 M ρ
            else
              some ((0 : Int32), M)
            else none
            else none
            else none
            else none
        else
          fX12_mayCome n 52 r0 x1 x2 x3 M ρ
        else none
        else none
      else none
    else if pc = 52 then
      ao_let (x3 + (1 : Int32)) fun v20 =>
      fX12_mayCome n 13 r0 x1 x2 v20 M ρ
    else if pc = 60 then
      if (26 : Int32) ≤ x3 then
        some ((1 : Int32), M)
      else
        if ρ.2.1 r0 = 22 then
        (ρ.1 r0 74).bind fun j23 =>
        if ρ.2.1 j23 = 2 then
        if ¬ (((x1 * (26 : Int32)) + x3) < 0 ∨ ρ.2.2.1 j23 ≤ ((x1 * (26 : Int32)) + x3).toNatClampNeg) then
        if (M j23 ((x1 * (26 : Int32)) + x3).toNatClampNeg) = 0 then
          fX12_mayCome n 107 r0 x1 x2 x3 M ρ
        else
          (ρ.1 r0 72).bind fun j27 =>
          if ρ.2.1 j27 = 0 then
          if ¬ (((x1 * (26 : Int32)) + x3) < 0 ∨ ρ.2.2.1 j27 ≤ ((x1 * (26 : Int32)) + x3).toNatClampNeg) then
          (ρ.1 r0 80).bind fun j30 =>
          if ρ.2.1 j30 = 0 then
          if ¬ (((x2 * (26 : Int32)) + x3) < 0 ∨ ρ.2.2.1 j30 ≤ ((x2 * (26 : Int32)) + x3).toNatClampNeg) then
          if (M j27 ((x1 * (26 : Int32)) + x3).toNatClampNeg) = (M j30 ((x2 * (26 : Int32)) + x3).toNatClampNeg) then
            fX12_mayCome n 107 r0 x1 x2 x3 M ρ
          else
            some ((0 : Int32), M)
          else none
          else none
          else none
          else none
        else none
        else none
        else none
    else if pc = 107 then
      ao_let (x3 + (1 : Int32)) fun v34 =>
      fX12_mayCome n 60 r0 x1 x2 v34 M ρ
    else none
def gX12_mayCome (n : Nat) (r0 : Nat) (x1 : Int32) (x2 : Int32) (M : ao_M) (ρ : ao_H) : Option (Int32 × ao_M) := fX12_mayCome n 0 r0 x1 x2 0 M ρ
set_option maxRecDepth 100000 in
set_option maxHeartbeats 4000000 in
theorem wX12_mayCome {Γ : ao_C} {ρ : ao_H} (d : Nat) (hd : 0 ≤ d) : ∀ n : Nat, (∀ (r0 : Nat) (x1 : Int32) (x2 : Int32) (M : ao_M) (y : Int32 × ao_M), fX12_mayCome n 0 r0 x1 x2 0 M ρ = some y → ao_W Γ uX12_mayCome (ao_rm d 0 0) (ao_Q Γ (ao_PI ρ y) 0 0) 0 0 0 [some (.ref (Γ.2.2.2 + r0)), some (.int x1), some (.int x2), none] [] (M, ρ)) ∧ (∀ (r0 : Nat) (x1 : Int32) (x2 : Int32) (x3 : Int32) (M : ao_M) (y : Int32 × ao_M), fX12_mayCome n 13 r0 x1 x2 x3 M ρ = some y → ao_W Γ uX12_mayCome (ao_rm d 0 0) (ao_Q Γ (ao_PI ρ y) 0 0) 0 0 13 [some (.ref (Γ.2.2.2 + r0)), some (.int x1), some (.int x2), some (.int x3)] [] (M, ρ)) ∧ (∀ (r0 : Nat) (x1 : Int32) (x2 : Int32) (x3 : Int32) (M : ao_M) (y : Int32 × ao_M), fX12_mayCome n 52 r0 x1 x2 x3 M ρ = some y → ao_W Γ uX12_mayCome (ao_rm d 0 0) (ao_Q Γ (ao_PI ρ y) 0 0) 0 0 52 [some (.ref (Γ.2.2.2 + r0)), some (.int x1), some (.int x2), some (.int x3)] [] (M, ρ)) ∧ (∀ (r0 : Nat) (x1 : Int32) (x2 : Int32) (x3 : Int32) (M : ao_M) (y : Int32 × ao_M), fX12_mayCome n 60 r0 x1 x2 x3 M ρ = some y → ao_W Γ uX12_mayCome (ao_rm d 0 0) (ao_Q Γ (ao_PI ρ y) 0 0) 0 0 60 [some (.ref (Γ.2.2.2 + r0)), some (.int x1), some (.int x2), some (.int x3)] [] (M, ρ)) ∧ (∀ (r0 : Nat) (x1 : Int32) (x2 : Int32) (x3 : Int32) (M : ao_M) (y : Int32 × ao_M), fX12_mayCome n 107 r0 x1 x2 x3 M ρ = some y → ao_W Γ uX12_mayCome (ao_rm d 0 0) (ao_Q Γ (ao_PI ρ y) 0 0) 0 0 107 [some (.ref (Γ.2.2.2 + r0)), some (.int x1), some (.int x2), some (.int x3)] [] (M, ρ)) := by
  intro n
  induction n with
  | zero => exact ⟨fun _ _ _ _ _ h => ao_no h, fun _ _ _ _ _ _ h => ao_no h, fun _ _ _ _ _ _ h => ao_no h, fun _ _ _ _ _ _ h => ao_no h, fun _ _ _ _ _ _ h => ao_no h⟩
  | succ n ih =>
    refine ⟨?_, ?_, ?_, ?_, ?_⟩
    · intro r0 x1 x2 M y h
      replace h := ao_ifT h rfl
      refine ao_aload_n 0 dX12_mayCome_0 rfl rfl ?_
      obtain ⟨hk1, h⟩ := ao_some h
      obtain ⟨j2, hj2, h⟩ := ao_bind h
      refine an_getR r0 12 81 (q := (RX12, TX12, 83)) dX12_mayCome_1 rfl hk1 (Nat.le_of_ble_eq_true rfl) rfl lf_X12_326 hj2 ?_
      refine ao_iload_n 1 dX12_mayCome_4 rfl rfl ?_
      obtain ⟨hk3, h⟩ := ao_some h
      obtain ⟨hb4, h⟩ := ao_some h
      refine an_zaload j2 dX12_mayCome_5 hk3 hb4 ?_
      refine ao_if_eq 11 dX12_mayCome_6 (by decide) (fun c5 => ?_) (fun c5 => ?_)
      · replace h := ao_ifT h c5
        refine ao_iconst (v := 0) dX12_mayCome_11 (by decide) ?_
        refine ao_istore_n 3 (lo' := [some (.ref (Γ.2.2.2 + r0)), some (.int x1), some (.int x2), some (.int (0 : Int32))]) dX12_mayCome_12 rfl (Nat.le_of_ble_eq_true rfl) rfl ?_
        exact ih.2.1 r0 x1 x2 (0 : Int32) M _ h
      · replace h := ao_ifF h c5
        refine ao_iconst (v := 0) dX12_mayCome_9 (by decide) ?_
        cases h
        exact ao_ireturn dX12_mayCome_10 rfl rfl ⟨rfl, rfl⟩
    · intro r0 x1 x2 x3 M y h
      replace h := ao_ifF h (by decide)
      replace h := ao_ifT h rfl
      refine ao_iload_n 3 dX12_mayCome_13 rfl rfl ?_
      refine ao_aload_n 0 dX12_mayCome_14 rfl rfl ?_
      obtain ⟨hk6, h⟩ := ao_some h
      refine an_getI r0 12 76 (q := (RX12, TX12, 83)) dX12_mayCome_15 rfl hk6 (Nat.le_of_ble_eq_true rfl) rfl lf_X12_338 ?_
      refine ao_icmp_ge 58 dX12_mayCome_18 (by decide) (fun c7 => ?_) (fun c7 => ?_)
      · replace h := ao_ifT h c7
        refine ao_iconst (v := 0) dX12_mayCome_58 (by decide) ?_
        refine ao_istore_n 3 (lo' := [some (.ref (Γ.2.2.2 + r0)), some (.int x1), some (.int x2), some (.int (0 : Int32))]) dX12_mayCome_59 rfl (Nat.le_of_ble_eq_true rfl) rfl ?_
        exact ih.2.2.2.1 r0 x1 x2 (0 : Int32) M _ h
      · replace h := ao_ifF h c7
        refine ao_aload_n 0 dX12_mayCome_21 rfl rfl ?_
        obtain ⟨j8, hj8, h⟩ := ao_bind h
        refine an_getR r0 12 81 (q := (RX12, TX12, 83)) dX12_mayCome_22 rfl hk6 (Nat.le_of_ble_eq_true rfl) rfl lf_X12_326 hj8 ?_
        refine ao_iload_n 3 dX12_mayCome_25 rfl rfl ?_
        obtain ⟨hk9, h⟩ := ao_some h
        obtain ⟨hb10, h⟩ := ao_some h
        refine an_zaload j8 dX12_mayCome_26 hk9 hb10 ?_
        refine ao_if_ne 52 dX12_mayCome_27 (by decide) (fun c11 => ?_) (fun c11 => ?_)
        · replace h := ao_ifF h c11
          exact ih.2.2.1 r0 x1 x2 x3 M _ h
        · replace h := ao_ifT h c11
          refine ao_iload_n 3 dX12_mayCome_30 rfl rfl ?_
          refine ao_iload_n 1 dX12_mayCome_31 rfl rfl ?_
          refine ao_icmp_eq 52 dX12_mayCome_32 (by decide) (fun c12 => ?_) (fun c12 => ?_)
          · replace h := ao_ifT h c12
            exact ih.2.2.1 r0 x1 x2 x3 M _ h
          · replace h := ao_ifF h c12
            refine ao_aload_n 0 dX12_mayCome_35 rfl rfl ?_
            obtain ⟨j13, hj13, h⟩ := ao_bind h
            refine an_getR r0 12 71 (q := (RX12, TX12, 83)) dX12_mayCome_36 rfl hk6 (Nat.le_of_ble_eq_true rfl) rfl lf_X12_302 hj13 ?_
            refine ao_iload_n 3 dX12_mayCome_39 rfl rfl ?_
            obtain ⟨hk14, h⟩ := ao_some h
            obtain ⟨hb15, h⟩ := ao_some h
            refine an_iaload j13 dX12_mayCome_40 hk14 hb15 ?_
            refine ao_aload_n 0 dX12_mayCome_41 rfl rfl ?_
            obtain ⟨j16, hj16, h⟩ := ao_bind h
            refine an_getR r0 12 70 (q := (RX12, TX12, 83)) dX12_mayCome_42 rfl hk6 (Nat.le_of_ble_eq_true rfl) rfl lf_X12_299 hj16 ?_
            refine ao_iload_n 1 dX12_mayCome_45 rfl rfl ?_
            obtain ⟨hk17, h⟩ := ao_some h
            obtain ⟨hb18, h⟩ := ao_some h
            refine an_iaload j16 dX12_mayCome_46 hk17 hb18 ?_
            refine ao_icmp_ge 52 dX12_mayCome_47 (by decide) (fun c19 => ?_) (fun c19 => ?_)
            · replace h := ao_ifT h c19
              exact ih.2.2.1 r0 x1 x2 x3 M _ h
            · replace h := ao_ifF h c19
              refine ao_iconst (v := 0) dX12_mayCome_50 (by decide) ?_
              cases h
              exact ao_ireturn dX12_mayCome_51 rfl rfl ⟨rfl, rfl⟩
    · intro r0 x1 x2 x3 M y h
      replace h := ao_ifF h (by decide)
      replace h := ao_ifF h (by decide)
      replace h := ao_ifT h rfl
      obtain ⟨v20, hv20⟩ : ∃ z : Int32, z = x3 + (1 : Int32) := ⟨_, rfl⟩
      replace h := ao_letD h hv20
      refine ao_iinc 3 (v := v20) (lo' := [some (.ref (Γ.2.2.2 + r0)), some (.int x1), some (.int x2), some (.int v20)]) dX12_mayCome_52 rfl (by rw [hv20]; rfl) (Nat.le_of_ble_eq_true rfl) rfl ?_
      refine ao_goto 13 dX12_mayCome_55 (by decide) ?_
      exact ih.2.1 r0 x1 x2 v20 M _ h
    · intro r0 x1 x2 x3 M y h
      replace h := ao_ifF h (by decide)
      replace h := ao_ifF h (by decide)
      replace h := ao_ifF h (by decide)
      replace h := ao_ifT h rfl
      refine ao_iload_n 3 dX12_mayCome_60 rfl rfl ?_
      refine ao_bipush (v := 26) dX12_mayCome_61 (by decide) ?_
      refine ao_icmp_ge 113 dX12_mayCome_63 (by decide) (fun c21 => ?_) (fun c21 => ?_)
      · replace h := ao_ifT h c21
        refine ao_iconst (v := 1) dX12_mayCome_113 (by decide) ?_
        cases h
        exact ao_ireturn dX12_mayCome_114 rfl rfl ⟨rfl, rfl⟩
      · replace h := ao_ifF h c21
        refine ao_aload_n 0 dX12_mayCome_66 rfl rfl ?_
        obtain ⟨hk22, h⟩ := ao_some h
        obtain ⟨j23, hj23, h⟩ := ao_bind h
        refine an_getR r0 12 74 (q := (RX12, TX12, 83)) dX12_mayCome_67 rfl hk22 (Nat.le_of_ble_eq_true rfl) rfl lf_X12_311 hj23 ?_
        refine ao_iload_n 1 dX12_mayCome_70 rfl rfl ?_
        refine ao_bipush (v := 26) dX12_mayCome_71 (by decide) ?_
        refine ao_imul dX12_mayCome_73 ?_
        refine ao_iload_n 3 dX12_mayCome_74 rfl rfl ?_
        refine ao_iadd dX12_mayCome_75 ?_
        obtain ⟨hk24, h⟩ := ao_some h
        obtain ⟨hb25, h⟩ := ao_some h
        refine an_zaload j23 dX12_mayCome_76 hk24 hb25 ?_
        refine ao_if_eq 107 dX12_mayCome_77 (by decide) (fun c26 => ?_) (fun c26 => ?_)
        · replace h := ao_ifT h c26
          exact ih.2.2.2.2 r0 x1 x2 x3 M _ h
        · replace h := ao_ifF h c26
          refine ao_aload_n 0 dX12_mayCome_80 rfl rfl ?_
          obtain ⟨j27, hj27, h⟩ := ao_bind h
          refine an_getR r0 12 72 (q := (RX12, TX12, 83)) dX12_mayCome_81 rfl hk22 (Nat.le_of_ble_eq_true rfl) rfl lf_X12_305 hj27 ?_
          refine ao_iload_n 1 dX12_mayCome_84 rfl rfl ?_
          refine ao_bipush (v := 26) dX12_mayCome_85 (by decide) ?_
          refine ao_imul dX12_mayCome_87 ?_
          refine ao_iload_n 3 dX12_mayCome_88 rfl rfl ?_
          refine ao_iadd dX12_mayCome_89 ?_
          obtain ⟨hk28, h⟩ := ao_some h
          obtain ⟨hb29, h⟩ := ao_some h
          refine an_iaload j27 dX12_mayCome_90 hk28 hb29 ?_
          refine ao_aload_n 0 dX12_mayCome_91 rfl rfl ?_
          obtain ⟨j30, hj30, h⟩ := ao_bind h
          refine an_getR r0 12 80 (q := (RX12, TX12, 83)) dX12_mayCome_92 rfl hk22 (Nat.le_of_ble_eq_true rfl) rfl lf_X12_323 hj30 ?_
          refine ao_iload_n 2 dX12_mayCome_95 rfl rfl ?_
          refine ao_bipush (v := 26) dX12_mayCome_96 (by decide) ?_
          refine ao_imul dX12_mayCome_98 ?_
          refine ao_iload_n 3 dX12_mayCome_99 rfl rfl ?_
          refine ao_iadd dX12_mayCome_100 ?_
          obtain ⟨hk31, h⟩ := ao_some h
          obtain ⟨hb32, h⟩ := ao_some h
          refine an_iaload j30 dX12_mayCome_101 hk31 hb32 ?_
          refine ao_icmp_eq 107 dX12_mayCome_102 (by decide) (fun c33 => ?_) (fun c33 => ?_)
          · replace h := ao_ifT h c33
            exact ih.2.2.2.2 r0 x1 x2 x3 M _ h
          · replace h := ao_ifF h c33
            refine ao_iconst (v := 0) dX12_mayCome_105 (by decide) ?_
            cases h
            exact ao_ireturn dX12_mayCome_106 rfl rfl ⟨rfl, rfl⟩
    · intro r0 x1 x2 x3 M y h
      replace h := ao_ifF h (by decide)
      replace h := ao_ifF h (by decide)
      replace h := ao_ifF h (by decide)
      replace h := ao_ifF h (by decide)
      replace h := ao_ifT h rfl
      obtain ⟨v34, hv34⟩ : ∃ z : Int32, z = x3 + (1 : Int32) := ⟨_, rfl⟩
      replace h := ao_letD h hv34
      refine ao_iinc 3 (v := v34) (lo' := [some (.ref (Γ.2.2.2 + r0)), some (.int x1), some (.int x2), some (.int v34)]) dX12_mayCome_107 rfl (by rw [hv34]; rfl) (Nat.le_of_ble_eq_true rfl) rfl ?_
      refine ao_goto 60 dX12_mayCome_110 (by decide) ?_
      exact ih.2.2.2.1 r0 x1 x2 v34 M _ h
set_option maxRecDepth 100000 in
set_option maxHeartbeats 4000000 in
theorem aX12_mayCome {Γ : ao_C} (d : Nat) (hd : 0 ≤ d) (n : Nat) (r0 : Nat) (x1 : Int32) (x2 : Int32) (M : ao_M) (ρ : ao_H) {y : Int32 × ao_M} (h : gX12_mayCome n r0 x1 x2 M ρ = some y) : ao_A Γ uX12_mayCome d 0 0 [.ref (Γ.2.2.2 + r0), .int x1, .int x2] (M, ρ) (ao_PI ρ y) := by
  refine ao_of (by decide) (ao_cat1 (Nat.le_of_ble_eq_true rfl)) (Nat.le_of_ble_eq_true rfl) ?_
  show ao_W Γ uX12_mayCome (ao_rm d 0 0) (ao_Q Γ (ao_PI ρ y) 0 0) 0 0 0 [some (.ref (Γ.2.2.2 + r0)), some (.int x1), some (.int x2), none] [] (M, ρ)
  exact (wX12_mayCome d hd n).1 r0 x1 x2 M y h

abbrev uX12_isAsIs : ao_Mi := (yX12_isAsIs, cX12_isAsIs, 3, (some .boolean), [])
def fX12_isAsIs : Nat → Nat → Nat → Int32 → Int32 →  ao_M → ao_H → Option (Int32 × ao_M)
  | 0, _, _, _, _, _, _ => none
  | n + 1, pc, r0, x1, x2, M, ρ =>
    if pc = 0 then
      fX12_isAsIs n 2 r0 x1 (0 : Int32) M ρ
    else if pc = 2 then
      if (26 : Int32) ≤ x2 then
        some ((1 : Int32), M)
      else
        if ρ.2.1 r0 = 22 then
        (ρ.1 r0 19).bind fun j3 =>
        if ρ.2.1 j3 = 0 then
        if ¬ (x2 < 0 ∨ ρ.2.2.1 j3 ≤ x2.toNatClampNeg) then
        if 0 ≤ (M j3 x2.toNatClampNeg) then
          fX12_isAsIs n 39 r0 x1 x2 M ρ
        else
          (ρ.1 r0 80).bind fun j7 =>
          if ρ.2.1 j7 = 0 then
          if ¬ (((x1 * (26 : Int32)) + x2) < 0 ∨ ρ.2.2.1 j7 ≤ ((x1 * (26 : Int32)) + x2).toNatClampNeg) then
          (ρ.1 r0 17).bind fun j10 =>
          if ρ.2.1 j10 = 0 then
          if ¬ (x2 < 0 ∨ ρ.2.2.1 j10 ≤ x2.toNatClampNeg) then
          if (M j7 ((x1 * (26 : Int32)) + x2).toNatClampNeg) = (M j10 x2.toNatClampNeg) then
            fX12_isAsIs n 39 r0 x1 x2 M ρ
          else
            some ((0 : Int32), M)
          else none
          else none
          else none
          else none
        else none
        else none
        else none
    else if pc = 39 then
      ao_let (x2 + (1 : Int32)) fun v14 =>
      fX12_isAsIs n 2 r0 x1 v14 M ρ
    else none
def gX12_isAsIs (n : Nat) (r0 : Nat) (x1 : Int32) (M : ao_M) (ρ : ao_H) : Option (Int32 × ao_M) := fX12_isAsIs n 0 r0 x1 0 M ρ
set_option maxRecDepth 100000 in
set_option maxHeartbeats 4000000 in
theorem wX12_isAsIs {Γ : ao_C} {ρ : ao_H} (d : Nat) (hd : 0 ≤ d) : ∀ n : Nat, (∀ (r0 : Nat) (x1 : Int32) (M : ao_M) (y : Int32 × ao_M), fX12_isAsIs n 0 r0 x1 0 M ρ = some y → ao_W Γ uX12_isAsIs (ao_rm d 0 0) (ao_Q Γ (ao_PI ρ y) 0 0) 0 0 0 [some (.ref (Γ.2.2.2 + r0)), some (.int x1), none] [] (M, ρ)) ∧ (∀ (r0 : Nat) (x1 : Int32) (x2 : Int32) (M : ao_M) (y : Int32 × ao_M), fX12_isAsIs n 2 r0 x1 x2 M ρ = some y → ao_W Γ uX12_isAsIs (ao_rm d 0 0) (ao_Q Γ (ao_PI ρ y) 0 0) 0 0 2 [some (.ref (Γ.2.2.2 + r0)), some (.int x1), some (.int x2)] [] (M, ρ)) ∧ (∀ (r0 : Nat) (x1 : Int32) (x2 : Int32) (M : ao_M) (y : Int32 × ao_M), fX12_isAsIs n 39 r0 x1 x2 M ρ = some y → ao_W Γ uX12_isAsIs (ao_rm d 0 0) (ao_Q Γ (ao_PI ρ y) 0 0) 0 0 39 [some (.ref (Γ.2.2.2 + r0)), some (.int x1), some (.int x2)] [] (M, ρ)) := by
  intro n
  induction n with
  | zero => exact ⟨fun _ _ _ _ h => ao_no h, fun _ _ _ _ _ h => ao_no h, fun _ _ _ _ _ h => ao_no h⟩
  | succ n ih =>
    refine ⟨?_, ?_, ?_⟩
    · intro r0 x1 M y h
      replace h := ao_ifT h rfl
      refine ao_iconst (v := 0) dX12_isAsIs_0 (by decide) ?_
      refine ao_istore_n 2 (lo' := [some (.ref (Γ.2.2.2 + r0)), some (.int x1), some (.int (0 : Int32))]) dX12_isAsIs_1 rfl (Nat.le_of_ble_eq_true rfl) rfl ?_
      exact ih.2.1 r0 x1 (0 : Int32) M _ h
    · intro r0 x1 x2 M y h
      replace h := ao_ifF h (by decide)
      replace h := ao_ifT h rfl
      refine ao_iload_n 2 dX12_isAsIs_2 rfl rfl ?_
      refine ao_bipush (v := 26) dX12_isAsIs_3 (by decide) ?_
      refine ao_icmp_ge 45 dX12_isAsIs_5 (by decide) (fun c1 => ?_) (fun c1 => ?_)
      · replace h := ao_ifT h c1
        refine ao_iconst (v := 1) dX12_isAsIs_45 (by decide) ?_
        cases h
        exact ao_ireturn dX12_isAsIs_46 rfl rfl ⟨rfl, rfl⟩
      · replace h := ao_ifF h c1
        refine ao_aload_n 0 dX12_isAsIs_8 rfl rfl ?_
        obtain ⟨hk2, h⟩ := ao_some h
        obtain ⟨j3, hj3, h⟩ := ao_bind h
        refine an_getR r0 12 19 (q := (RX12, TX12, 83)) dX12_isAsIs_9 rfl hk2 (Nat.le_of_ble_eq_true rfl) rfl lf_X12_177 hj3 ?_
        refine ao_iload_n 2 dX12_isAsIs_12 rfl rfl ?_
        obtain ⟨hk4, h⟩ := ao_some h
        obtain ⟨hb5, h⟩ := ao_some h
        refine an_iaload j3 dX12_isAsIs_13 hk4 hb5 ?_
        refine ao_if_ge 39 dX12_isAsIs_14 (by decide) (fun c6 => ?_) (fun c6 => ?_)
        · replace h := ao_ifT h c6
          exact ih.2.2 r0 x1 x2 M _ h
        · replace h := ao_ifF h c6
          refine ao_aload_n 0 dX12_isAsIs_17 rfl rfl ?_
          obtain ⟨j7, hj7, h⟩ := ao_bind h
          refine an_getR r0 12 80 (q := (RX12, TX12, 83)) dX12_isAsIs_18 rfl hk2 (Nat.le_of_ble_eq_true rfl) rfl lf_X12_323 hj7 ?_
          refine ao_iload_n 1 dX12_isAsIs_21 rfl rfl ?_
          refine ao_bipush (v := 26) dX12_isAsIs_22 (by decide) ?_
          refine ao_imul dX12_isAsIs_24 ?_
          refine ao_iload_n 2 dX12_isAsIs_25 rfl rfl ?_
          refine ao_iadd dX12_isAsIs_26 ?_
          obtain ⟨hk8, h⟩ := ao_some h
          obtain ⟨hb9, h⟩ := ao_some h
          refine an_iaload j7 dX12_isAsIs_27 hk8 hb9 ?_
          refine ao_aload_n 0 dX12_isAsIs_28 rfl rfl ?_
          obtain ⟨j10, hj10, h⟩ := ao_bind h
          refine an_getR r0 12 17 (q := (RX12, TX12, 83)) dX12_isAsIs_29 rfl hk2 (Nat.le_of_ble_eq_true rfl) rfl lf_X12_151 hj10 ?_
          refine ao_iload_n 2 dX12_isAsIs_32 rfl rfl ?_
          obtain ⟨hk11, h⟩ := ao_some h
          obtain ⟨hb12, h⟩ := ao_some h
          refine an_iaload j10 dX12_isAsIs_33 hk11 hb12 ?_
          refine ao_icmp_eq 39 dX12_isAsIs_34 (by decide) (fun c13 => ?_) (fun c13 => ?_)
          · replace h := ao_ifT h c13
            exact ih.2.2 r0 x1 x2 M _ h
          · replace h := ao_ifF h c13
            refine ao_iconst (v := 0) dX12_isAsIs_37 (by decide) ?_
            cases h
            exact ao_ireturn dX12_isAsIs_38 rfl rfl ⟨rfl, rfl⟩
    · intro r0 x1 x2 M y h
      replace h := ao_ifF h (by decide)
      replace h := ao_ifF h (by decide)
      replace h := ao_ifT h rfl
      obtain ⟨v14, hv14⟩ : ∃ z : Int32, z = x2 + (1 : Int32) := ⟨_, rfl⟩
      replace h := ao_letD h hv14
      refine ao_iinc 2 (v := v14) (lo' := [some (.ref (Γ.2.2.2 + r0)), some (.int x1), some (.int v14)]) dX12_isAsIs_39 rfl (by rw [hv14]; rfl) (Nat.le_of_ble_eq_true rfl) rfl ?_
      refine ao_goto 2 dX12_isAsIs_42 (by decide) ?_
      exact ih.2.1 r0 x1 v14 M _ h
set_option maxRecDepth 100000 in
set_option maxHeartbeats 4000000 in
theorem aX12_isAsIs {Γ : ao_C} (d : Nat) (hd : 0 ≤ d) (n : Nat) (r0 : Nat) (x1 : Int32) (M : ao_M) (ρ : ao_H) {y : Int32 × ao_M} (h : gX12_isAsIs n r0 x1 M ρ = some y) : ao_A Γ uX12_isAsIs d 0 0 [.ref (Γ.2.2.2 + r0), .int x1] (M, ρ) (ao_PI ρ y) := by
  refine ao_of (by decide) (ao_cat1 (Nat.le_of_ble_eq_true rfl)) (Nat.le_of_ble_eq_true rfl) ?_
  show ao_W Γ uX12_isAsIs (ao_rm d 0 0) (ao_Q Γ (ao_PI ρ y) 0 0) 0 0 0 [some (.ref (Γ.2.2.2 + r0)), some (.int x1), none] [] (M, ρ)
  exact (wX12_isAsIs d hd n).1 r0 x1 M y h

abbrev uX12_judge : ao_Mi := (yX12_judge, cX12_judge, 5, (some .int), [])
def fX12_judge : Nat → Nat → Nat → Int32 → Int32 → Int32 → Int32 → Int32 → Int32 → Nat →  ao_M → ao_H → Option (Int32 × ao_M)
  | 0, _, _, _, _, _, _, _, _, _, _, _ => none
  | n + 1, pc, r0, x1, x2, x3, x4, s0, s1, q2, M, ρ =>
    if pc = 0 then
      if ρ.2.1 r0 = 22 then
      ao_let (ao_u M r0 0 (0 : Int32)) fun M2 =>
      ao_let (ao_u M2 r0 82 (0 : Int32)) fun M3 =>
      if (M3 r0 76) ≤ (14 : Int32) then
        fX12_judge n 23 r0 (0 : Int32) 0 0 0 0 0 0 M3 ρ
      else
        some ((-1 : Int32), M3)
      else none
    else if pc = 23 then
      if (26 : Int32) ≤ x1 then
        fX12_judge n 49 r0 (0 : Int32) 0 0 0 0 0 0 M ρ
      else
        if ρ.2.1 r0 = 22 then
        (ρ.1 r0 80).bind fun j7 =>
        (ρ.1 r0 20).bind fun j8 =>
        if ρ.2.1 j8 = 0 then
        if ¬ (x1 < 0 ∨ ρ.2.2.1 j8 ≤ x1.toNatClampNeg) then
        if ρ.2.1 j7 = 0 then
        if ¬ (x1 < 0 ∨ ρ.2.2.1 j7 ≤ x1.toNatClampNeg) then
        ao_let (ao_u M j7 x1.toNatClampNeg (M j8 x1.toNatClampNeg)) fun M13 =>
        ao_let (x1 + (1 : Int32)) fun v14 =>
        fX12_judge n 23 r0 v14 0 0 0 0 0 0 M13 ρ
        else none
        else none
        else none
        else none
        else none
    else if pc = 49 then
      if ρ.2.1 r0 = 22 then
      if (M r0 76) ≤ x1 then
        (ρ.1 r0 79).bind fun j17 =>
        if ρ.2.1 j17 = 0 then
        if ¬ ((0 : Int32) < 0 ∨ ρ.2.2.1 j17 ≤ (0 : Int32).toNatClampNeg) then
        ao_let (ao_u M j17 (0 : Int32).toNatClampNeg (0 : Int32)) fun M20 =>
        fX12_judge n 81 r0 (1 : Int32) (0 : Int32) 0 0 0 0 0 M20 ρ
        else none
        else none
      else
        (ρ.1 r0 81).bind fun j21 =>
        if ρ.2.1 j21 = 2 then
        if ¬ (x1 < 0 ∨ ρ.2.2.1 j21 ≤ x1.toNatClampNeg) then
        ao_let (ao_u M j21 x1.toNatClampNeg (0 : Int32)) fun M24 =>
        ao_let (x1 + (1 : Int32)) fun v25 =>
        fX12_judge n 49 r0 v25 0 0 0 0 0 0 M24 ρ
        else none
        else none
      else none
    else if pc = 81 then
      if x2 < 0 then
        some ((0 : Int32), M)
      else
        if ρ.2.1 r0 = 22 then
        if x2 = (M r0 76) then
          (gX12_isAsIs n r0 x2 M ρ).bind fun p29 =>
          if p29.1 = 0 then
            fX12_judge n 108 r0 x1 x2 0 0 0 0 0 p29.2 ρ
          else
            ao_let (ao_u p29.2 r0 82 x2) fun M31 =>
            some ((1 : Int32), M31)
        else
          fX12_judge n 108 r0 x1 x2 0 0 0 0 0 M ρ
        else none
    else if pc = 108 then
      if ρ.2.1 r0 = 22 then
      (ρ.1 r0 79).bind fun j33 =>
      if ρ.2.1 j33 = 0 then
      if ¬ (x2 < 0 ∨ ρ.2.2.1 j33 ≤ x2.toNatClampNeg) then
      ao_let (M j33 x2.toNatClampNeg) fun v36 =>
      fX12_judge n 115 r0 x1 x2 v36 0 0 0 0 M ρ
      else none
      else none
      else none
    else if pc = 115 then
      if ρ.2.1 r0 = 22 then
      if (M r0 76) ≤ x3 then
        fX12_judge n 138 r0 x1 x2 x3 0 0 0 0 M ρ
      else
        (gX12_mayCome n r0 x3 x2 M ρ).bind fun p39 =>
        if p39.1 = 0 then
          ao_let (x3 + (1 : Int32)) fun v41 =>
          fX12_judge n 115 r0 x1 x2 v41 0 0 0 0 p39.2 ρ
        else
          fX12_judge n 138 r0 x1 x2 x3 0 0 0 0 p39.2 ρ
      else none
    else if pc = 138 then
      if ρ.2.1 r0 = 22 then
      if x2 = (M r0 76) then
        fX12_judge n 154 r0 x1 x2 x3 0 0 0 0 M ρ
      else
        if x3 = (M r0 76) then
          fX12_judge n 154 r0 x1 x2 x3 0 0 0 0 M ρ
        else
          ao_let (x1 + (1 : Int32)) fun v45 =>
          if v45 ≤ (20000 : Int32) then
            (ρ.1 r0 79).bind fun j47 =>
            if ρ.2.1 j47 = 0 then
            if ¬ (x2 < 0 ∨ ρ.2.2.1 j47 ≤ x2.toNatClampNeg) then
            ao_let (ao_u M j47 x2.toNatClampNeg (x3 + (1 : Int32))) fun M50 =>
            (ρ.1 r0 78).bind fun j51 =>
            if ρ.2.1 j51 = 0 then
            if ¬ (x2 < 0 ∨ ρ.2.2.1 j51 ≤ x2.toNatClampNeg) then
            ao_let (ao_u M50 j51 x2.toNatClampNeg x3) fun M54 =>
            (ρ.1 r0 81).bind fun j55 =>
            if ρ.2.1 j55 = 2 then
            if ¬ (x3 < 0 ∨ ρ.2.2.1 j55 ≤ x3.toNatClampNeg) then
            ao_let (ao_u M54 j55 x3.toNatClampNeg (1 : Int32)) fun M58 =>
            fX12_judge n 214 r0 v45 x2 x3 (0 : Int32) 0 0 0 M58 ρ
            else none
            else none
            else none
            else none
            else none
            else none
          else
            some ((-1 : Int32), M)
      else none
    else if pc = 154 then
      ao_let (x2 + (-1 : Int32)) fun v59 =>
      if v59 < 0 then
        fX12_judge n 81 r0 x1 v59 0 0 0 0 0 M ρ
      else
        if ρ.2.1 r0 = 22 then
        (ρ.1 r0 81).bind fun j62 =>
        (ρ.1 r0 78).bind fun j63 =>
        if ρ.2.1 j63 = 0 then
        if ¬ (v59 < 0 ∨ ρ.2.2.1 j63 ≤ v59.toNatClampNeg) then
        if ρ.2.1 j62 = 2 then
        if ¬ ((M j63 v59.toNatClampNeg) < 0 ∨ ρ.2.2.1 j62 ≤ (M j63 v59.toNatClampNeg).toNatClampNeg) then
        ao_let (ao_u M j62 (M j63 v59.toNatClampNeg).toNatClampNeg (0 : Int32)) fun M68 =>
        fX12_judge n 81 r0 x1 v59 0 0 0 0 0 M68 ρ
        else none
        else none
        else none
        else none
        else none
    else if pc = 214 then
      if (26 : Int32) ≤ x4 then
        ao_let (x2 + (1 : Int32)) fun v70 =>
        if ρ.2.1 r0 = 22 then
        (ρ.1 r0 79).bind fun j72 =>
        if ρ.2.1 j72 = 0 then
        if ¬ (v70 < 0 ∨ ρ.2.2.1 j72 ≤ v70.toNatClampNeg) then
        ao_let (ao_u M j72 v70.toNatClampNeg (0 : Int32)) fun M75 =>
        fX12_judge n 81 r0 x1 v70 0 0 0 0 0 M75 ρ
        else none
        else none
        else none
      else
        if ρ.2.1 r0 = 22 then
        (ρ.1 r0 80).bind fun j77 =>
        (ρ.1 r0 75).bind fun j78 =>
        if ρ.2.1 j78 = 2 then
        if ¬ (((x3 * (26 : Int32)) + x4) < 0 ∨ ρ.2.2.1 j78 ≤ ((x3 * (26 : Int32)) + x4).toNatClampNeg) then
        if (M j78 ((x3 * (26 : Int32)) + x4).toNatClampNeg) = 0 then
          if ρ.2.1 j77 = 0 then
          if ¬ (((x2 * (26 : Int32)) + x4) < 0 ∨ ρ.2.2.1 j77 ≤ ((x2 * (26 : Int32)) + x4).toNatClampNeg) then
          fX12_judge n 276 r0 x1 x2 x3 x4 (M j77 ((x2 * (26 : Int32)) + x4).toNatClampNeg) (((x2 + (1 : Int32)) * (26 : Int32)) + x4) j77 M ρ
          else none
          else none
        else
          (ρ.1 r0 73).bind fun j84 =>
          if ρ.2.1 j84 = 0 then
          if ¬ (((x3 * (26 : Int32)) + x4) < 0 ∨ ρ.2.2.1 j84 ≤ ((x3 * (26 : Int32)) + x4).toNatClampNeg) then
          fX12_judge n 276 r0 x1 x2 x3 x4 (M j84 ((x3 * (26 : Int32)) + x4).toNatClampNeg) (((x2 + (1 : Int32)) * (26 : Int32)) + x4) j77 M ρ
          else none
          else none
        else none
        else none
        else none
    else if pc = 276 then
      if ρ.2.1 q2 = 0 then
      if ¬ (s1 < 0 ∨ ρ.2.2.1 q2 ≤ s1.toNatClampNeg) then
      ao_let (ao_u M q2 s1.toNatClampNeg s0) fun M89 =>
      ao_let (x4 + (1 : Int32)) fun v90 =>
      fX12_judge n 214 r0 x1 x2 x3 v90 0 0 0 M89 ρ
      else none
      else none
    else none
def gX12_judge (n : Nat) (r0 : Nat) (M : ao_M) (ρ : ao_H) : Option (Int32 × ao_M) := fX12_judge n 0 r0 0 0 0 0 0 0 0 M ρ
set_option maxRecDepth 100000 in
set_option maxHeartbeats 4000000 in
theorem wX12_judge {Γ : ao_C} {ρ : ao_H} (d : Nat) (hd : 1 ≤ d) : ∀ n : Nat, (∀ (r0 : Nat) (M : ao_M) (y : Int32 × ao_M), fX12_judge n 0 r0 0 0 0 0 0 0 0 M ρ = some y → ao_W Γ uX12_judge (ao_rm d 0 0) (ao_Q Γ (ao_PI ρ y) 0 0) 0 0 0 [some (.ref (Γ.2.2.2 + r0)), none, none, none, none] [] (M, ρ)) ∧ (∀ (r0 : Nat) (x1 : Int32) (M : ao_M) (y : Int32 × ao_M), fX12_judge n 23 r0 x1 0 0 0 0 0 0 M ρ = some y → ao_W Γ uX12_judge (ao_rm d 0 0) (ao_Q Γ (ao_PI ρ y) 0 0) 0 0 23 [some (.ref (Γ.2.2.2 + r0)), some (.int x1), none, none, none] [] (M, ρ)) ∧ (∀ (r0 : Nat) (x1 : Int32) (M : ao_M) (y : Int32 × ao_M), fX12_judge n 49 r0 x1 0 0 0 0 0 0 M ρ = some y → ao_W Γ uX12_judge (ao_rm d 0 0) (ao_Q Γ (ao_PI ρ y) 0 0) 0 0 49 [some (.ref (Γ.2.2.2 + r0)), some (.int x1), none, none, none] [] (M, ρ)) ∧ (∀ (r0 : Nat) (x1 : Int32) (x2 : Int32) (M : ao_M) (y : Int32 × ao_M), fX12_judge n 81 r0 x1 x2 0 0 0 0 0 M ρ = some y → ao_W Γ uX12_judge (ao_rm d 0 0) (ao_Q Γ (ao_PI ρ y) 0 0) 0 0 81 [some (.ref (Γ.2.2.2 + r0)), some (.int x1), some (.int x2), none, none] [] (M, ρ)) ∧ (∀ (r0 : Nat) (x1 : Int32) (x2 : Int32) (M : ao_M) (y : Int32 × ao_M), fX12_judge n 108 r0 x1 x2 0 0 0 0 0 M ρ = some y → ao_W Γ uX12_judge (ao_rm d 0 0) (ao_Q Γ (ao_PI ρ y) 0 0) 0 0 108 [some (.ref (Γ.2.2.2 + r0)), some (.int x1), some (.int x2), none, none] [] (M, ρ)) ∧ (∀ (r0 : Nat) (x1 : Int32) (x2 : Int32) (x3 : Int32) (M : ao_M) (y : Int32 × ao_M), fX12_judge n 115 r0 x1 x2 x3 0 0 0 0 M ρ = some y → ao_W Γ uX12_judge (ao_rm d 0 0) (ao_Q Γ (ao_PI ρ y) 0 0) 0 0 115 [some (.ref (Γ.2.2.2 + r0)), some (.int x1), some (.int x2), some (.int x3), none] [] (M, ρ)) ∧ (∀ (r0 : Nat) (x1 : Int32) (x2 : Int32) (x3 : Int32) (M : ao_M) (y : Int32 × ao_M), fX12_judge n 138 r0 x1 x2 x3 0 0 0 0 M ρ = some y → ao_W Γ uX12_judge (ao_rm d 0 0) (ao_Q Γ (ao_PI ρ y) 0 0) 0 0 138 [some (.ref (Γ.2.2.2 + r0)), some (.int x1), some (.int x2), some (.int x3), none] [] (M, ρ)) ∧ (∀ (r0 : Nat) (x1 : Int32) (x2 : Int32) (x3 : Int32) (M : ao_M) (y : Int32 × ao_M), fX12_judge n 154 r0 x1 x2 x3 0 0 0 0 M ρ = some y → ao_W Γ uX12_judge (ao_rm d 0 0) (ao_Q Γ (ao_PI ρ y) 0 0) 0 0 154 [some (.ref (Γ.2.2.2 + r0)), some (.int x1), some (.int x2), some (.int x3), none] [] (M, ρ)) ∧ (∀ (r0 : Nat) (x1 : Int32) (x2 : Int32) (x3 : Int32) (x4 : Int32) (M : ao_M) (y : Int32 × ao_M), fX12_judge n 214 r0 x1 x2 x3 x4 0 0 0 M ρ = some y → ao_W Γ uX12_judge (ao_rm d 0 0) (ao_Q Γ (ao_PI ρ y) 0 0) 0 0 214 [some (.ref (Γ.2.2.2 + r0)), some (.int x1), some (.int x2), some (.int x3), some (.int x4)] [] (M, ρ)) ∧ (∀ (r0 : Nat) (x1 : Int32) (x2 : Int32) (x3 : Int32) (x4 : Int32) (s0 : Int32) (s1 : Int32) (q2 : Nat) (M : ao_M) (y : Int32 × ao_M), fX12_judge n 276 r0 x1 x2 x3 x4 s0 s1 q2 M ρ = some y → ao_W Γ uX12_judge (ao_rm d 0 0) (ao_Q Γ (ao_PI ρ y) 0 0) 0 0 276 [some (.ref (Γ.2.2.2 + r0)), some (.int x1), some (.int x2), some (.int x3), some (.int x4)] [.int s0, .int s1, .ref (Γ.2.2.2 + q2)] (M, ρ)) := by
  intro n
  induction n with
  | zero => exact ⟨fun _ _ _ h => ao_no h, fun _ _ _ _ h => ao_no h, fun _ _ _ _ h => ao_no h, fun _ _ _ _ _ h => ao_no h, fun _ _ _ _ _ h => ao_no h, fun _ _ _ _ _ _ h => ao_no h, fun _ _ _ _ _ _ h => ao_no h, fun _ _ _ _ _ _ h => ao_no h, fun _ _ _ _ _ _ _ h => ao_no h, fun _ _ _ _ _ _ _ _ _ _ h => ao_no h⟩
  | succ n ih =>
    refine ⟨?_, ?_, ?_, ?_, ?_, ?_, ?_, ?_, ?_, ?_⟩
    · intro r0 M y h
      replace h := ao_ifT h rfl
      refine ao_aload_n 0 dX12_judge_0 rfl rfl ?_
      refine ao_iconst (v := 0) dX12_judge_1 (by decide) ?_
      obtain ⟨hk1, h⟩ := ao_some h
      refine an_putI r0 12 0 (q := (RX12, TX12, 83)) dX12_judge_2 rfl hk1 (Nat.le_of_ble_eq_true rfl) lf_X12_1 rfl rfl rfl rfl (fun M2 hM2 => ?_)
      replace h := ao_letD h hM2
      refine ao_aload_n 0 dX12_judge_5 rfl rfl ?_
      refine ao_iconst (v := 0) dX12_judge_6 (by decide) ?_
      refine an_putI r0 12 82 (q := (RX12, TX12, 83)) dX12_judge_7 rfl hk1 (Nat.le_of_ble_eq_true rfl) lf_X12_347 rfl rfl rfl rfl (fun M3 hM3 => ?_)
      replace h := ao_letD h hM3
      refine ao_aload_n 0 dX12_judge_10 rfl rfl ?_
      refine an_getI r0 12 76 (q := (RX12, TX12, 83)) dX12_judge_11 rfl hk1 (Nat.le_of_ble_eq_true rfl) rfl lf_X12_338 ?_
      refine ao_bipush (v := 14) dX12_judge_14 (by decide) ?_
      refine ao_icmp_le 21 dX12_judge_16 (by decide) (fun c4 => ?_) (fun c4 => ?_)
      · replace h := ao_ifT h c4
        refine ao_iconst (v := 0) dX12_judge_21 (by decide) ?_
        refine ao_istore_n 1 (lo' := [some (.ref (Γ.2.2.2 + r0)), some (.int (0 : Int32)), none, none, none]) dX12_judge_22 rfl (Nat.le_of_ble_eq_true rfl) rfl ?_
        exact ih.2.1 r0 (0 : Int32) M3 _ h
      · replace h := ao_ifF h c4
        refine ao_iconst (v := (-1)) dX12_judge_19 (by decide) ?_
        cases h
        exact ao_ireturn dX12_judge_20 rfl rfl ⟨rfl, rfl⟩
    · intro r0 x1 M y h
      replace h := ao_ifF h (by decide)
      replace h := ao_ifT h rfl
      refine ao_iload_n 1 dX12_judge_23 rfl rfl ?_
      refine ao_bipush (v := 26) dX12_judge_24 (by decide) ?_
      refine ao_icmp_ge 47 dX12_judge_26 (by decide) (fun c5 => ?_) (fun c5 => ?_)
      · replace h := ao_ifT h c5
        refine ao_iconst (v := 0) dX12_judge_47 (by decide) ?_
        refine ao_istore_n 1 (lo' := [some (.ref (Γ.2.2.2 + r0)), some (.int (0 : Int32)), none, none, none]) dX12_judge_48 rfl (Nat.le_of_ble_eq_true rfl) rfl ?_
        exact ih.2.2.1 r0 (0 : Int32) M _ h
      · replace h := ao_ifF h c5
        refine ao_aload_n 0 dX12_judge_29 rfl rfl ?_
        obtain ⟨hk6, h⟩ := ao_some h
        obtain ⟨j7, hj7, h⟩ := ao_bind h
        refine an_getR r0 12 80 (q := (RX12, TX12, 83)) dX12_judge_30 rfl hk6 (Nat.le_of_ble_eq_true rfl) rfl lf_X12_323 hj7 ?_
        refine ao_iload_n 1 dX12_judge_33 rfl rfl ?_
        refine ao_aload_n 0 dX12_judge_34 rfl rfl ?_
        obtain ⟨j8, hj8, h⟩ := ao_bind h
        refine an_getR r0 12 20 (q := (RX12, TX12, 83)) dX12_judge_35 rfl hk6 (Nat.le_of_ble_eq_true rfl) rfl lf_X12_180 hj8 ?_
        refine ao_iload_n 1 dX12_judge_38 rfl rfl ?_
        obtain ⟨hk9, h⟩ := ao_some h
        obtain ⟨hb10, h⟩ := ao_some h
        refine an_iaload j8 dX12_judge_39 hk9 hb10 ?_
        obtain ⟨hk11, h⟩ := ao_some h
        obtain ⟨hb12, h⟩ := ao_some h
        refine an_iastore j7 dX12_judge_40 hk11 hb12 (fun M13 hM13 => ?_)
        replace h := ao_letD h hM13
        obtain ⟨v14, hv14⟩ : ∃ z : Int32, z = x1 + (1 : Int32) := ⟨_, rfl⟩
        replace h := ao_letD h hv14
        refine ao_iinc 1 (v := v14) (lo' := [some (.ref (Γ.2.2.2 + r0)), some (.int v14), none, none, none]) dX12_judge_41 rfl (by rw [hv14]; rfl) (Nat.le_of_ble_eq_true rfl) rfl ?_
        refine ao_goto 23 dX12_judge_44 (by decide) ?_
        exact ih.2.1 r0 v14 M13 _ h
    · intro r0 x1 M y h
      replace h := ao_ifF h (by decide)
      replace h := ao_ifF h (by decide)
      replace h := ao_ifT h rfl
      refine ao_iload_n 1 dX12_judge_49 rfl rfl ?_
      refine ao_aload_n 0 dX12_judge_50 rfl rfl ?_
      obtain ⟨hk15, h⟩ := ao_some h
      refine an_getI r0 12 76 (q := (RX12, TX12, 83)) dX12_judge_51 rfl hk15 (Nat.le_of_ble_eq_true rfl) rfl lf_X12_338 ?_
      refine ao_icmp_ge 70 dX12_judge_54 (by decide) (fun c16 => ?_) (fun c16 => ?_)
      · replace h := ao_ifT h c16
        refine ao_iconst (v := 1) dX12_judge_70 (by decide) ?_
        refine ao_istore_n 1 (lo' := [some (.ref (Γ.2.2.2 + r0)), some (.int (1 : Int32)), none, none, none]) dX12_judge_71 rfl (Nat.le_of_ble_eq_true rfl) rfl ?_
        refine ao_iconst (v := 0) dX12_judge_72 (by decide) ?_
        refine ao_istore_n 2 (lo' := [some (.ref (Γ.2.2.2 + r0)), some (.int (1 : Int32)), some (.int (0 : Int32)), none, none]) dX12_judge_73 rfl (Nat.le_of_ble_eq_true rfl) rfl ?_
        refine ao_aload_n 0 dX12_judge_74 rfl rfl ?_
        obtain ⟨j17, hj17, h⟩ := ao_bind h
        refine an_getR r0 12 79 (q := (RX12, TX12, 83)) dX12_judge_75 rfl hk15 (Nat.le_of_ble_eq_true rfl) rfl lf_X12_320 hj17 ?_
        refine ao_iconst (v := 0) dX12_judge_78 (by decide) ?_
        refine ao_iconst (v := 0) dX12_judge_79 (by decide) ?_
        obtain ⟨hk18, h⟩ := ao_some h
        obtain ⟨hb19, h⟩ := ao_some h
        refine an_iastore j17 dX12_judge_80 hk18 hb19 (fun M20 hM20 => ?_)
        replace h := ao_letD h hM20
        exact ih.2.2.2.1 r0 (1 : Int32) (0 : Int32) M20 _ h
      · replace h := ao_ifF h c16
        refine ao_aload_n 0 dX12_judge_57 rfl rfl ?_
        obtain ⟨j21, hj21, h⟩ := ao_bind h
        refine an_getR r0 12 81 (q := (RX12, TX12, 83)) dX12_judge_58 rfl hk15 (Nat.le_of_ble_eq_true rfl) rfl lf_X12_326 hj21 ?_
        refine ao_iload_n 1 dX12_judge_61 rfl rfl ?_
        refine ao_iconst (v := 0) dX12_judge_62 (by decide) ?_
        obtain ⟨hk22, h⟩ := ao_some h
        obtain ⟨hb23, h⟩ := ao_some h
        refine an_zastore j21 dX12_judge_63 hk22 hb23 rfl (fun M24 hM24 => ?_)
        replace h := ao_letD h hM24
        obtain ⟨v25, hv25⟩ : ∃ z : Int32, z = x1 + (1 : Int32) := ⟨_, rfl⟩
        replace h := ao_letD h hv25
        refine ao_iinc 1 (v := v25) (lo' := [some (.ref (Γ.2.2.2 + r0)), some (.int v25), none, none, none]) dX12_judge_64 rfl (by rw [hv25]; rfl) (Nat.le_of_ble_eq_true rfl) rfl ?_
        refine ao_goto 49 dX12_judge_67 (by decide) ?_
        exact ih.2.2.1 r0 v25 M24 _ h
    · intro r0 x1 x2 M y h
      replace h := ao_ifF h (by decide)
      replace h := ao_ifF h (by decide)
      replace h := ao_ifF h (by decide)
      replace h := ao_ifT h rfl
      refine ao_iload_n 2 dX12_judge_81 rfl rfl ?_
      refine ao_if_lt 296 dX12_judge_82 (by decide) (fun c26 => ?_) (fun c26 => ?_)
      · replace h := ao_ifT h c26
        refine ao_iconst (v := 0) dX12_judge_296 (by decide) ?_
        cases h
        exact ao_ireturn dX12_judge_297 rfl rfl ⟨rfl, rfl⟩
      · replace h := ao_ifF h c26
        refine ao_iload_n 2 dX12_judge_85 rfl rfl ?_
        refine ao_aload_n 0 dX12_judge_86 rfl rfl ?_
        obtain ⟨hk27, h⟩ := ao_some h
        refine an_getI r0 12 76 (q := (RX12, TX12, 83)) dX12_judge_87 rfl hk27 (Nat.le_of_ble_eq_true rfl) rfl lf_X12_338 ?_
        refine ao_icmp_ne 108 dX12_judge_90 (by decide) (fun c28 => ?_) (fun c28 => ?_)
        · replace h := ao_ifF h c28
          exact ih.2.2.2.2.1 r0 x1 x2 M _ h
        · replace h := ao_ifT h c28
          refine ao_aload_n 0 dX12_judge_93 rfl rfl ?_
          refine ao_iload_n 2 dX12_judge_94 rfl rfl ?_
          obtain ⟨p29, hp29, h⟩ := ao_bind h
          refine an_callVi r0 12 (q := (RX12, TX12, 83)) [.int x2] (aX12_isAsIs (d - 1) (by omega) _ r0 x2 M ρ hp29) dX12_judge_95 lc_X12_524 li_X12_isAsIs ls_X12_isAsIs rfl hk27 rfl rfl (Nat.le_of_ble_eq_true rfl) (ao_hR (by omega) (by decide)) ?_
          refine ao_if_eq 108 dX12_judge_98 (by decide) (fun c30 => ?_) (fun c30 => ?_)
          · replace h := ao_ifT h c30
            exact ih.2.2.2.2.1 r0 x1 x2 p29.2 _ h
          · replace h := ao_ifF h c30
            refine ao_aload_n 0 dX12_judge_101 rfl rfl ?_
            refine ao_iload_n 2 dX12_judge_102 rfl rfl ?_
            refine an_putI r0 12 82 (q := (RX12, TX12, 83)) dX12_judge_103 rfl hk27 (Nat.le_of_ble_eq_true rfl) lf_X12_347 rfl rfl rfl rfl (fun M31 hM31 => ?_)
            replace h := ao_letD h hM31
            refine ao_iconst (v := 1) dX12_judge_106 (by decide) ?_
            cases h
            exact ao_ireturn dX12_judge_107 rfl rfl ⟨rfl, rfl⟩
    · intro r0 x1 x2 M y h
      replace h := ao_ifF h (by decide)
      replace h := ao_ifF h (by decide)
      replace h := ao_ifF h (by decide)
      replace h := ao_ifF h (by decide)
      replace h := ao_ifT h rfl
      refine ao_aload_n 0 dX12_judge_108 rfl rfl ?_
      obtain ⟨hk32, h⟩ := ao_some h
      obtain ⟨j33, hj33, h⟩ := ao_bind h
      refine an_getR r0 12 79 (q := (RX12, TX12, 83)) dX12_judge_109 rfl hk32 (Nat.le_of_ble_eq_true rfl) rfl lf_X12_320 hj33 ?_
      refine ao_iload_n 2 dX12_judge_112 rfl rfl ?_
      obtain ⟨hk34, h⟩ := ao_some h
      obtain ⟨hb35, h⟩ := ao_some h
      refine an_iaload j33 dX12_judge_113 hk34 hb35 ?_
      refine an_topi (fun v36 hv36 => ?_)
      replace h := ao_letD h hv36
      refine ao_istore_n 3 (lo' := [some (.ref (Γ.2.2.2 + r0)), some (.int x1), some (.int x2), some (.int v36), none]) dX12_judge_114 rfl (Nat.le_of_ble_eq_true rfl) rfl ?_
      exact ih.2.2.2.2.2.1 r0 x1 x2 v36 M _ h
    · intro r0 x1 x2 x3 M y h
      replace h := ao_ifF h (by decide)
      replace h := ao_ifF h (by decide)
      replace h := ao_ifF h (by decide)
      replace h := ao_ifF h (by decide)
      replace h := ao_ifF h (by decide)
      replace h := ao_ifT h rfl
      refine ao_iload_n 3 dX12_judge_115 rfl rfl ?_
      refine ao_aload_n 0 dX12_judge_116 rfl rfl ?_
      obtain ⟨hk37, h⟩ := ao_some h
      refine an_getI r0 12 76 (q := (RX12, TX12, 83)) dX12_judge_117 rfl hk37 (Nat.le_of_ble_eq_true rfl) rfl lf_X12_338 ?_
      refine ao_icmp_ge 138 dX12_judge_120 (by decide) (fun c38 => ?_) (fun c38 => ?_)
      · replace h := ao_ifT h c38
        exact ih.2.2.2.2.2.2.1 r0 x1 x2 x3 M _ h
      · replace h := ao_ifF h c38
        refine ao_aload_n 0 dX12_judge_123 rfl rfl ?_
        refine ao_iload_n 3 dX12_judge_124 rfl rfl ?_
        refine ao_iload_n 2 dX12_judge_125 rfl rfl ?_
        obtain ⟨p39, hp39, h⟩ := ao_bind h
        refine an_callVi r0 12 (q := (RX12, TX12, 83)) [.int x3, .int x2] (aX12_mayCome (d - 1) (by omega) _ r0 x3 x2 M ρ hp39) dX12_judge_126 lc_X12_527 li_X12_mayCome ls_X12_mayCome rfl hk37 rfl rfl (Nat.le_of_ble_eq_true rfl) (ao_hR (by omega) (by decide)) ?_
        refine ao_if_ne 138 dX12_judge_129 (by decide) (fun c40 => ?_) (fun c40 => ?_)
        · replace h := ao_ifF h c40
          exact ih.2.2.2.2.2.2.1 r0 x1 x2 x3 p39.2 _ h
        · replace h := ao_ifT h c40
          obtain ⟨v41, hv41⟩ : ∃ z : Int32, z = x3 + (1 : Int32) := ⟨_, rfl⟩
          replace h := ao_letD h hv41
          refine ao_iinc 3 (v := v41) (lo' := [some (.ref (Γ.2.2.2 + r0)), some (.int x1), some (.int x2), some (.int v41), none]) dX12_judge_132 rfl (by rw [hv41]; rfl) (Nat.le_of_ble_eq_true rfl) rfl ?_
          refine ao_goto 115 dX12_judge_135 (by decide) ?_
          exact ih.2.2.2.2.2.1 r0 x1 x2 v41 p39.2 _ h
    · intro r0 x1 x2 x3 M y h
      replace h := ao_ifF h (by decide)
      replace h := ao_ifF h (by decide)
      replace h := ao_ifF h (by decide)
      replace h := ao_ifF h (by decide)
      replace h := ao_ifF h (by decide)
      replace h := ao_ifF h (by decide)
      replace h := ao_ifT h rfl
      refine ao_iload_n 2 dX12_judge_138 rfl rfl ?_
      refine ao_aload_n 0 dX12_judge_139 rfl rfl ?_
      obtain ⟨hk42, h⟩ := ao_some h
      refine an_getI r0 12 76 (q := (RX12, TX12, 83)) dX12_judge_140 rfl hk42 (Nat.le_of_ble_eq_true rfl) rfl lf_X12_338 ?_
      refine ao_icmp_eq 154 dX12_judge_143 (by decide) (fun c43 => ?_) (fun c43 => ?_)
      · replace h := ao_ifT h c43
        exact ih.2.2.2.2.2.2.2.1 r0 x1 x2 x3 M _ h
      · replace h := ao_ifF h c43
        refine ao_iload_n 3 dX12_judge_146 rfl rfl ?_
        refine ao_aload_n 0 dX12_judge_147 rfl rfl ?_
        refine an_getI r0 12 76 (q := (RX12, TX12, 83)) dX12_judge_148 rfl hk42 (Nat.le_of_ble_eq_true rfl) rfl lf_X12_338 ?_
        refine ao_icmp_ne 176 dX12_judge_151 (by decide) (fun c44 => ?_) (fun c44 => ?_)
        · replace h := ao_ifF h c44
          obtain ⟨v45, hv45⟩ : ∃ z : Int32, z = x1 + (1 : Int32) := ⟨_, rfl⟩
          replace h := ao_letD h hv45
          refine ao_iinc 1 (v := v45) (lo' := [some (.ref (Γ.2.2.2 + r0)), some (.int v45), some (.int x2), some (.int x3), none]) dX12_judge_176 rfl (by rw [hv45]; rfl) (Nat.le_of_ble_eq_true rfl) rfl ?_
          refine ao_iload_n 1 dX12_judge_179 rfl rfl ?_
          refine ao_sipush (v := 20000) dX12_judge_180 (by decide) ?_
          refine ao_icmp_le 188 dX12_judge_183 (by decide) (fun c46 => ?_) (fun c46 => ?_)
          · replace h := ao_ifT h c46
            refine ao_aload_n 0 dX12_judge_188 rfl rfl ?_
            obtain ⟨j47, hj47, h⟩ := ao_bind h
            refine an_getR r0 12 79 (q := (RX12, TX12, 83)) dX12_judge_189 rfl hk42 (Nat.le_of_ble_eq_true rfl) rfl lf_X12_320 hj47 ?_
            refine ao_iload_n 2 dX12_judge_192 rfl rfl ?_
            refine ao_iload_n 3 dX12_judge_193 rfl rfl ?_
            refine ao_iconst (v := 1) dX12_judge_194 (by decide) ?_
            refine ao_iadd dX12_judge_195 ?_
            obtain ⟨hk48, h⟩ := ao_some h
            obtain ⟨hb49, h⟩ := ao_some h
            refine an_iastore j47 dX12_judge_196 hk48 hb49 (fun M50 hM50 => ?_)
            replace h := ao_letD h hM50
            refine ao_aload_n 0 dX12_judge_197 rfl rfl ?_
            obtain ⟨j51, hj51, h⟩ := ao_bind h
            refine an_getR r0 12 78 (q := (RX12, TX12, 83)) dX12_judge_198 rfl hk42 (Nat.le_of_ble_eq_true rfl) rfl lf_X12_317 hj51 ?_
            refine ao_iload_n 2 dX12_judge_201 rfl rfl ?_
            refine ao_iload_n 3 dX12_judge_202 rfl rfl ?_
            obtain ⟨hk52, h⟩ := ao_some h
            obtain ⟨hb53, h⟩ := ao_some h
            refine an_iastore j51 dX12_judge_203 hk52 hb53 (fun M54 hM54 => ?_)
            replace h := ao_letD h hM54
            refine ao_aload_n 0 dX12_judge_204 rfl rfl ?_
            obtain ⟨j55, hj55, h⟩ := ao_bind h
            refine an_getR r0 12 81 (q := (RX12, TX12, 83)) dX12_judge_205 rfl hk42 (Nat.le_of_ble_eq_true rfl) rfl lf_X12_326 hj55 ?_
            refine ao_iload_n 3 dX12_judge_208 rfl rfl ?_
            refine ao_iconst (v := 1) dX12_judge_209 (by decide) ?_
            obtain ⟨hk56, h⟩ := ao_some h
            obtain ⟨hb57, h⟩ := ao_some h
            refine an_zastore j55 dX12_judge_210 hk56 hb57 rfl (fun M58 hM58 => ?_)
            replace h := ao_letD h hM58
            refine ao_iconst (v := 0) dX12_judge_211 (by decide) ?_
            refine ao_istore 4 (lo' := [some (.ref (Γ.2.2.2 + r0)), some (.int v45), some (.int x2), some (.int x3), some (.int (0 : Int32))]) dX12_judge_212 (Nat.le_of_ble_eq_true rfl) rfl ?_
            exact ih.2.2.2.2.2.2.2.2.1 r0 v45 x2 x3 (0 : Int32) M58 _ h
          · replace h := ao_ifF h c46
            refine ao_iconst (v := (-1)) dX12_judge_186 (by decide) ?_
            cases h
            exact ao_ireturn dX12_judge_187 rfl rfl ⟨rfl, rfl⟩
        · replace h := ao_ifT h c44
          exact ih.2.2.2.2.2.2.2.1 r0 x1 x2 x3 M _ h
    · intro r0 x1 x2 x3 M y h
      replace h := ao_ifF h (by decide)
      replace h := ao_ifF h (by decide)
      replace h := ao_ifF h (by decide)
      replace h := ao_ifF h (by decide)
      replace h := ao_ifF h (by decide)
      replace h := ao_ifF h (by decide)
      replace h := ao_ifF h (by decide)
      replace h := ao_ifT h rfl
      obtain ⟨v59, hv59⟩ : ∃ z : Int32, z = x2 + (-1 : Int32) := ⟨_, rfl⟩
      replace h := ao_letD h hv59
      refine ao_iinc 2 (v := v59) (lo' := [some (.ref (Γ.2.2.2 + r0)), some (.int x1), some (.int v59), some (.int x3), none]) dX12_judge_154 rfl (by rw [hv59]; rfl) (Nat.le_of_ble_eq_true rfl) rfl ?_
      refine ao_iload_n 2 dX12_judge_157 rfl rfl ?_
      refine ao_if_lt 81 dX12_judge_158 (by decide) (fun c60 => ?_) (fun c60 => ?_)
      · replace h := ao_ifT h c60
        refine ao_loForget (lo' := [some (.ref (Γ.2.2.2 + r0)), some (.int x1), some (.int v59), none, none]) (ao_fgS (ao_fgS (ao_fgS (ao_fgN (ao_fgN ao_fgZ))))) ?_
        exact ih.2.2.2.1 r0 x1 v59 M _ h
      · replace h := ao_ifF h c60
        refine ao_aload_n 0 dX12_judge_161 rfl rfl ?_
        obtain ⟨hk61, h⟩ := ao_some h
        obtain ⟨j62, hj62, h⟩ := ao_bind h
        refine an_getR r0 12 81 (q := (RX12, TX12, 83)) dX12_judge_162 rfl hk61 (Nat.le_of_ble_eq_true rfl) rfl lf_X12_326 hj62 ?_
        refine ao_aload_n 0 dX12_judge_165 rfl rfl ?_
        obtain ⟨j63, hj63, h⟩ := ao_bind h
        refine an_getR r0 12 78 (q := (RX12, TX12, 83)) dX12_judge_166 rfl hk61 (Nat.le_of_ble_eq_true rfl) rfl lf_X12_317 hj63 ?_
        refine ao_iload_n 2 dX12_judge_169 rfl rfl ?_
        obtain ⟨hk64, h⟩ := ao_some h
        obtain ⟨hb65, h⟩ := ao_some h
        refine an_iaload j63 dX12_judge_170 hk64 hb65 ?_
        refine ao_iconst (v := 0) dX12_judge_171 (by decide) ?_
        obtain ⟨hk66, h⟩ := ao_some h
        obtain ⟨hb67, h⟩ := ao_some h
        refine an_zastore j62 dX12_judge_172 hk66 hb67 rfl (fun M68 hM68 => ?_)
        replace h := ao_letD h hM68
        refine ao_goto 81 dX12_judge_173 (by decide) ?_
        refine ao_loForget (lo' := [some (.ref (Γ.2.2.2 + r0)), some (.int x1), some (.int v59), none, none]) (ao_fgS (ao_fgS (ao_fgS (ao_fgN (ao_fgN ao_fgZ))))) ?_
        exact ih.2.2.2.1 r0 x1 v59 M68 _ h
    · intro r0 x1 x2 x3 x4 M y h
      replace h := ao_ifF h (by decide)
      replace h := ao_ifF h (by decide)
      replace h := ao_ifF h (by decide)
      replace h := ao_ifF h (by decide)
      replace h := ao_ifF h (by decide)
      replace h := ao_ifF h (by decide)
      replace h := ao_ifF h (by decide)
      replace h := ao_ifF h (by decide)
      replace h := ao_ifT h rfl
      refine ao_iload 4 dX12_judge_214 rfl ?_
      refine ao_bipush (v := 26) dX12_judge_216 (by decide) ?_
      refine ao_icmp_ge 283 dX12_judge_218 (by decide) (fun c69 => ?_) (fun c69 => ?_)
      · replace h := ao_ifT h c69
        obtain ⟨v70, hv70⟩ : ∃ z : Int32, z = x2 + (1 : Int32) := ⟨_, rfl⟩
        replace h := ao_letD h hv70
        refine ao_iinc 2 (v := v70) (lo' := [some (.ref (Γ.2.2.2 + r0)), some (.int x1), some (.int v70), some (.int x3), some (.int x4)]) dX12_judge_283 rfl (by rw [hv70]; rfl) (Nat.le_of_ble_eq_true rfl) rfl ?_
        refine ao_aload_n 0 dX12_judge_286 rfl rfl ?_
        obtain ⟨hk71, h⟩ := ao_some h
        obtain ⟨j72, hj72, h⟩ := ao_bind h
        refine an_getR r0 12 79 (q := (RX12, TX12, 83)) dX12_judge_287 rfl hk71 (Nat.le_of_ble_eq_true rfl) rfl lf_X12_320 hj72 ?_
        refine ao_iload_n 2 dX12_judge_290 rfl rfl ?_
        refine ao_iconst (v := 0) dX12_judge_291 (by decide) ?_
        obtain ⟨hk73, h⟩ := ao_some h
        obtain ⟨hb74, h⟩ := ao_some h
        refine an_iastore j72 dX12_judge_292 hk73 hb74 (fun M75 hM75 => ?_)
        replace h := ao_letD h hM75
        refine ao_goto 81 dX12_judge_293 (by decide) ?_
        refine ao_loForget (lo' := [some (.ref (Γ.2.2.2 + r0)), some (.int x1), some (.int v70), none, none]) (ao_fgS (ao_fgS (ao_fgS (ao_fgN (ao_fgN ao_fgZ))))) ?_
        exact ih.2.2.2.1 r0 x1 v70 M75 _ h
      · replace h := ao_ifF h c69
        refine ao_aload_n 0 dX12_judge_221 rfl rfl ?_
        obtain ⟨hk76, h⟩ := ao_some h
        obtain ⟨j77, hj77, h⟩ := ao_bind h
        refine an_getR r0 12 80 (q := (RX12, TX12, 83)) dX12_judge_222 rfl hk76 (Nat.le_of_ble_eq_true rfl) rfl lf_X12_323 hj77 ?_
        refine ao_iload_n 2 dX12_judge_225 rfl rfl ?_
        refine ao_iconst (v := 1) dX12_judge_226 (by decide) ?_
        refine ao_iadd dX12_judge_227 ?_
        refine ao_bipush (v := 26) dX12_judge_228 (by decide) ?_
        refine ao_imul dX12_judge_230 ?_
        refine ao_iload 4 dX12_judge_231 rfl ?_
        refine ao_iadd dX12_judge_233 ?_
        refine ao_aload_n 0 dX12_judge_234 rfl rfl ?_
        obtain ⟨j78, hj78, h⟩ := ao_bind h
        refine an_getR r0 12 75 (q := (RX12, TX12, 83)) dX12_judge_235 rfl hk76 (Nat.le_of_ble_eq_true rfl) rfl lf_X12_314 hj78 ?_
        refine ao_iload_n 3 dX12_judge_238 rfl rfl ?_
        refine ao_bipush (v := 26) dX12_judge_239 (by decide) ?_
        refine ao_imul dX12_judge_241 ?_
        refine ao_iload 4 dX12_judge_242 rfl ?_
        refine ao_iadd dX12_judge_244 ?_
        obtain ⟨hk79, h⟩ := ao_some h
        obtain ⟨hb80, h⟩ := ao_some h
        refine an_zaload j78 dX12_judge_245 hk79 hb80 ?_
        refine ao_if_eq 264 dX12_judge_246 (by decide) (fun c81 => ?_) (fun c81 => ?_)
        · replace h := ao_ifT h c81
          refine ao_aload_n 0 dX12_judge_264 rfl rfl ?_
          refine an_getR r0 12 80 (q := (RX12, TX12, 83)) dX12_judge_265 rfl hk76 (Nat.le_of_ble_eq_true rfl) rfl lf_X12_323 hj77 ?_
          refine ao_iload_n 2 dX12_judge_268 rfl rfl ?_
          refine ao_bipush (v := 26) dX12_judge_269 (by decide) ?_
          refine ao_imul dX12_judge_271 ?_
          refine ao_iload 4 dX12_judge_272 rfl ?_
          refine ao_iadd dX12_judge_274 ?_
          obtain ⟨hk82, h⟩ := ao_some h
          obtain ⟨hb83, h⟩ := ao_some h
          refine an_iaload j77 dX12_judge_275 hk82 hb83 ?_
          exact ih.2.2.2.2.2.2.2.2.2 r0 x1 x2 x3 x4 (M j77 ((x2 * (26 : Int32)) + x4).toNatClampNeg) (((x2 + (1 : Int32)) * (26 : Int32)) + x4) j77 M _ h
        · replace h := ao_ifF h c81
          refine ao_aload_n 0 dX12_judge_249 rfl rfl ?_
          obtain ⟨j84, hj84, h⟩ := ao_bind h
          refine an_getR r0 12 73 (q := (RX12, TX12, 83)) dX12_judge_250 rfl hk76 (Nat.le_of_ble_eq_true rfl) rfl lf_X12_308 hj84 ?_
          refine ao_iload_n 3 dX12_judge_253 rfl rfl ?_
          refine ao_bipush (v := 26) dX12_judge_254 (by decide) ?_
          refine ao_imul dX12_judge_256 ?_
          refine ao_iload 4 dX12_judge_257 rfl ?_
          refine ao_iadd dX12_judge_259 ?_
          obtain ⟨hk85, h⟩ := ao_some h
          obtain ⟨hb86, h⟩ := ao_some h
          refine an_iaload j84 dX12_judge_260 hk85 hb86 ?_
          refine ao_goto 276 dX12_judge_261 (by decide) ?_
          exact ih.2.2.2.2.2.2.2.2.2 r0 x1 x2 x3 x4 (M j84 ((x3 * (26 : Int32)) + x4).toNatClampNeg) (((x2 + (1 : Int32)) * (26 : Int32)) + x4) j77 M _ h
    · intro r0 x1 x2 x3 x4 s0 s1 q2 M y h
      replace h := ao_ifF h (by decide)
      replace h := ao_ifF h (by decide)
      replace h := ao_ifF h (by decide)
      replace h := ao_ifF h (by decide)
      replace h := ao_ifF h (by decide)
      replace h := ao_ifF h (by decide)
      replace h := ao_ifF h (by decide)
      replace h := ao_ifF h (by decide)
      replace h := ao_ifF h (by decide)
      replace h := ao_ifT h rfl
      obtain ⟨hk87, h⟩ := ao_some h
      obtain ⟨hb88, h⟩ := ao_some h
      refine an_iastore q2 dX12_judge_276 hk87 hb88 (fun M89 hM89 => ?_)
      replace h := ao_letD h hM89
      obtain ⟨v90, hv90⟩ : ∃ z : Int32, z = x4 + (1 : Int32) := ⟨_, rfl⟩
      replace h := ao_letD h hv90
      refine ao_iinc 4 (v := v90) (lo' := [some (.ref (Γ.2.2.2 + r0)), some (.int x1), some (.int x2), some (.int x3), some (.int v90)]) dX12_judge_277 rfl (by rw [hv90]; rfl) (Nat.le_of_ble_eq_true rfl) rfl ?_
      refine ao_goto 214 dX12_judge_280 (by decide) ?_
      exact ih.2.2.2.2.2.2.2.2.1 r0 x1 x2 x3 v90 M89 _ h
set_option maxRecDepth 100000 in
set_option maxHeartbeats 4000000 in
theorem aX12_judge {Γ : ao_C} (d : Nat) (hd : 1 ≤ d) (n : Nat) (r0 : Nat) (M : ao_M) (ρ : ao_H) {y : Int32 × ao_M} (h : gX12_judge n r0 M ρ = some y) : ao_A Γ uX12_judge d 0 0 [.ref (Γ.2.2.2 + r0)] (M, ρ) (ao_PI ρ y) := by
  refine ao_of (by decide) (ao_cat1 (Nat.le_of_ble_eq_true rfl)) (Nat.le_of_ble_eq_true rfl) ?_
  show ao_W Γ uX12_judge (ao_rm d 0 0) (ao_Q Γ (ao_PI ρ y) 0 0) 0 0 0 [some (.ref (Γ.2.2.2 + r0)), none, none, none, none] [] (M, ρ)
  exact (wX12_judge d hd n).1 r0 M y h

abbrev uX12_order : ao_Mi := (yX12_order, cX12_order, 2, (some .int), [])
def fX12_order : Nat → Nat → Nat → Int32 → Nat → Int32 → Nat →  ao_M → ao_H → Option (Int32 × ao_M)
  | 0, _, _, _, _, _, _, _, _ => none
  | n + 1, pc, r0, x1, q0, s0, q1, M, ρ =>
    if pc = 0 then
      if x1 < 0 then
        fX12_order n 13 r0 x1 r0 0 0 M ρ
      else
        if ρ.2.1 r0 = 22 then
        if x1 < (M r0 82) then
          fX12_order n 18 r0 x1 0 (0 : Int32) r0 M ρ
        else
          fX12_order n 13 r0 x1 r0 0 0 M ρ
        else none
    else if pc = 13 then
      fX12_order n 18 r0 x1 0 (1 : Int32) q0 M ρ
    else if pc = 18 then
      if ρ.2.1 q1 = 22 then
      (gX12_fails q1 s0 M ρ).bind fun p5 =>
      if p5.1 = 0 then
        if ρ.2.1 r0 = 22 then
        (ρ.1 r0 78).bind fun j8 =>
        if ρ.2.1 j8 = 0 then
        if ¬ (x1 < 0 ∨ ρ.2.2.1 j8 ≤ x1.toNatClampNeg) then
        some ((p5.2 j8 x1.toNatClampNeg), p5.2)
        else none
        else none
        else none
      else
        some ((0 : Int32), p5.2)
      else none
    else none
def gX12_order (n : Nat) (r0 : Nat) (x1 : Int32) (M : ao_M) (ρ : ao_H) : Option (Int32 × ao_M) := fX12_order n 0 r0 x1 0 0 0 M ρ
set_option maxRecDepth 100000 in
set_option maxHeartbeats 4000000 in
theorem wX12_order {Γ : ao_C} {ρ : ao_H} (d : Nat) (hd : 1 ≤ d) : ∀ n : Nat, (∀ (r0 : Nat) (x1 : Int32) (M : ao_M) (y : Int32 × ao_M), fX12_order n 0 r0 x1 0 0 0 M ρ = some y → ao_W Γ uX12_order (ao_rm d 0 0) (ao_Q Γ (ao_PI ρ y) 0 0) 0 0 0 [some (.ref (Γ.2.2.2 + r0)), some (.int x1)] [] (M, ρ)) ∧ (∀ (r0 : Nat) (x1 : Int32) (q0 : Nat) (M : ao_M) (y : Int32 × ao_M), fX12_order n 13 r0 x1 q0 0 0 M ρ = some y → ao_W Γ uX12_order (ao_rm d 0 0) (ao_Q Γ (ao_PI ρ y) 0 0) 0 0 13 [some (.ref (Γ.2.2.2 + r0)), some (.int x1)] [.ref (Γ.2.2.2 + q0)] (M, ρ)) ∧ (∀ (r0 : Nat) (x1 : Int32) (s0 : Int32) (q1 : Nat) (M : ao_M) (y : Int32 × ao_M), fX12_order n 18 r0 x1 0 s0 q1 M ρ = some y → ao_W Γ uX12_order (ao_rm d 0 0) (ao_Q Γ (ao_PI ρ y) 0 0) 0 0 18 [some (.ref (Γ.2.2.2 + r0)), some (.int x1)] [.int s0, .ref (Γ.2.2.2 + q1)] (M, ρ)) := by
  intro n
  induction n with
  | zero => exact ⟨fun _ _ _ _ h => ao_no h, fun _ _ _ _ _ h => ao_no h, fun _ _ _ _ _ _ h => ao_no h⟩
  | succ n ih =>
    refine ⟨?_, ?_, ?_⟩
    · intro r0 x1 M y h
      replace h := ao_ifT h rfl
      refine ao_aload_n 0 dX12_order_0 rfl rfl ?_
      refine ao_iload_n 1 dX12_order_1 rfl rfl ?_
      refine ao_if_lt 13 dX12_order_2 (by decide) (fun c1 => ?_) (fun c1 => ?_)
      · replace h := ao_ifT h c1
        exact ih.2.1 r0 x1 r0 M _ h
      · replace h := ao_ifF h c1
        refine ao_iload_n 1 dX12_order_5 rfl rfl ?_
        refine ao_aload_n 0 dX12_order_6 rfl rfl ?_
        obtain ⟨hk2, h⟩ := ao_some h
        refine an_getI r0 12 82 (q := (RX12, TX12, 83)) dX12_order_7 rfl hk2 (Nat.le_of_ble_eq_true rfl) rfl lf_X12_347 ?_
        refine ao_icmp_lt 17 dX12_order_10 (by decide) (fun c3 => ?_) (fun c3 => ?_)
        · replace h := ao_ifT h c3
          refine ao_iconst (v := 0) dX12_order_17 (by decide) ?_
          exact ih.2.2 r0 x1 (0 : Int32) r0 M _ h
        · replace h := ao_ifF h c3
          exact ih.2.1 r0 x1 r0 M _ h
    · intro r0 x1 q0 M y h
      replace h := ao_ifF h (by decide)
      replace h := ao_ifT h rfl
      refine ao_iconst (v := 1) dX12_order_13 (by decide) ?_
      refine ao_goto 18 dX12_order_14 (by decide) ?_
      exact ih.2.2 r0 x1 (1 : Int32) q0 M _ h
    · intro r0 x1 s0 q1 M y h
      replace h := ao_ifF h (by decide)
      replace h := ao_ifF h (by decide)
      replace h := ao_ifT h rfl
      obtain ⟨hk4, h⟩ := ao_some h
      obtain ⟨p5, hp5, h⟩ := ao_bind h
      refine an_callVi q1 12 (q := (RX12, TX12, 83)) [.int s0] (aX12_fails (d - 1) (by omega) q1 s0 M ρ hp5) dX12_order_18 lc_X12_497 li_X12_fails ls_X12_fails rfl hk4 rfl rfl (Nat.le_of_ble_eq_true rfl) (ao_hR (by omega) (by decide)) ?_
      refine ao_if_eq 26 dX12_order_21 (by decide) (fun c6 => ?_) (fun c6 => ?_)
      · replace h := ao_ifT h c6
        refine ao_aload_n 0 dX12_order_26 rfl rfl ?_
        obtain ⟨hk7, h⟩ := ao_some h
        obtain ⟨j8, hj8, h⟩ := ao_bind h
        refine an_getR r0 12 78 (q := (RX12, TX12, 83)) dX12_order_27 rfl hk7 (Nat.le_of_ble_eq_true rfl) rfl lf_X12_317 hj8 ?_
        refine ao_iload_n 1 dX12_order_30 rfl rfl ?_
        obtain ⟨hk9, h⟩ := ao_some h
        obtain ⟨hb10, h⟩ := ao_some h
        refine an_iaload j8 dX12_order_31 hk9 hb10 ?_
        cases h
        exact ao_ireturn dX12_order_32 rfl rfl ⟨rfl, rfl⟩
      · replace h := ao_ifF h c6
        refine ao_iconst (v := 0) dX12_order_24 (by decide) ?_
        cases h
        exact ao_ireturn dX12_order_25 rfl rfl ⟨rfl, rfl⟩
set_option maxRecDepth 100000 in
set_option maxHeartbeats 4000000 in
theorem aX12_order {Γ : ao_C} (d : Nat) (hd : 1 ≤ d) (n : Nat) (r0 : Nat) (x1 : Int32) (M : ao_M) (ρ : ao_H) {y : Int32 × ao_M} (h : gX12_order n r0 x1 M ρ = some y) : ao_A Γ uX12_order d 0 0 [.ref (Γ.2.2.2 + r0), .int x1] (M, ρ) (ao_PI ρ y) := by
  refine ao_of (by decide) (ao_cat1 (Nat.le_of_ble_eq_true rfl)) (Nat.le_of_ble_eq_true rfl) ?_
  show ao_W Γ uX12_order (ao_rm d 0 0) (ao_Q Γ (ao_PI ρ y) 0 0) 0 0 0 [some (.ref (Γ.2.2.2 + r0)), some (.int x1)] [] (M, ρ)
  exact (wX12_order d hd n).1 r0 x1 M y h

abbrev uX12_record : ao_Mi := (yX12_record, cX12_record, 5, (some .int), [])
def fX12_record : Nat → Nat → Nat → Int32 → Int32 → Int32 → Int32 → Nat → Int32 → Nat →  ao_M → ao_H → Option (Int32 × ao_M)
  | 0, _, _, _, _, _, _, _, _, _, _, _ => none
  | n + 1, pc, r0, x1, x2, x3, x4, q0, s0, q1, M, ρ =>
    if pc = 0 then
      if x2 < 0 then
        fX12_record n 10 r0 x1 x2 0 0 r0 0 0 M ρ
      else
        if x2 ≤ (4 : Int32) then
          if x1 < 0 then
            fX12_record n 26 r0 x1 x2 0 0 r0 0 0 M ρ
          else
            if ρ.2.1 r0 = 22 then
            if x1 < (M r0 76) then
              fX12_record n 31 r0 x1 x2 0 0 0 (0 : Int32) r0 M ρ
            else
              fX12_record n 26 r0 x1 x2 0 0 r0 0 0 M ρ
            else none
        else
          fX12_record n 10 r0 x1 x2 0 0 r0 0 0 M ρ
    else if pc = 10 then
      fX12_record n 31 r0 x1 x2 0 0 0 (1 : Int32) q0 M ρ
    else if pc = 26 then
      fX12_record n 31 r0 x1 x2 0 0 0 (2 : Int32) q0 M ρ
    else if pc = 31 then
      if ρ.2.1 q1 = 22 then
      (gX12_fails q1 s0 M ρ).bind fun p7 =>
      if p7.1 = 0 then
        ao_let (x1 * (26 : Int32)) fun v9 =>
        fX12_record n 47 r0 x1 x2 (0 : Int32) v9 0 0 0 p7.2 ρ
      else
        some ((0 : Int32), p7.2)
      else none
    else if pc = 47 then
      if ((x1 * (26 : Int32)) + (26 : Int32)) ≤ x4 then
        if x2 = 0 then
          if ρ.2.1 r0 = 22 then
          (ρ.1 r0 69).bind fun j23 =>
          if ρ.2.1 j23 = 0 then
          if ¬ (x1 < 0 ∨ ρ.2.2.1 j23 ≤ x1.toNatClampNeg) then
          some ((M j23 x1.toNatClampNeg), M)
          else none
          else none
          else none
        else
          if x2 = (3 : Int32) then
            if ρ.2.1 r0 = 22 then
            (ρ.1 r0 70).bind fun j19 =>
            if ρ.2.1 j19 = 0 then
            if ¬ (x1 < 0 ∨ ρ.2.2.1 j19 ≤ x1.toNatClampNeg) then
            some ((M j19 x1.toNatClampNeg), M)
            else none
            else none
            else none
          else
            if x2 = (4 : Int32) then
              if ρ.2.1 r0 = 22 then
              (ρ.1 r0 71).bind fun j15 =>
              if ρ.2.1 j15 = 0 then
              if ¬ (x1 < 0 ∨ ρ.2.2.1 j15 ≤ x1.toNatClampNeg) then
              some ((M j15 x1.toNatClampNeg), M)
              else none
              else none
              else none
            else
              some (x3, M)
      else
        if x2 = (1 : Int32) then
          if ρ.2.1 r0 = 22 then
          (ρ.1 r0 74).bind fun j33 =>
          if ρ.2.1 j33 = 2 then
          if ¬ (x4 < 0 ∨ ρ.2.2.1 j33 ≤ x4.toNatClampNeg) then
          if (M j33 x4.toNatClampNeg) = 0 then
            fX12_record n 90 r0 x1 x2 x3 x4 0 0 0 M ρ
          else
            fX12_record n 87 r0 x1 x2 x3 x4 0 0 0 M ρ
          else none
          else none
          else none
        else
          if ρ.2.1 r0 = 22 then
          (ρ.1 r0 75).bind fun j28 =>
          if ρ.2.1 j28 = 2 then
          if ¬ (x4 < 0 ∨ ρ.2.2.1 j28 ≤ x4.toNatClampNeg) then
          if (M j28 x4.toNatClampNeg) = 0 then
            fX12_record n 90 r0 x1 x2 x3 x4 0 0 0 M ρ
          else
            fX12_record n 87 r0 x1 x2 x3 x4 0 0 0 M ρ
          else none
          else none
          else none
    else if pc = 87 then
      ao_let (x3 + (1 : Int32)) fun v37 =>
      fX12_record n 90 r0 x1 x2 v37 x4 0 0 0 M ρ
    else if pc = 90 then
      ao_let (x4 + (1 : Int32)) fun v38 =>
      fX12_record n 47 r0 x1 x2 x3 v38 0 0 0 M ρ
    else none
def gX12_record (n : Nat) (r0 : Nat) (x1 : Int32) (x2 : Int32) (M : ao_M) (ρ : ao_H) : Option (Int32 × ao_M) := fX12_record n 0 r0 x1 x2 0 0 0 0 0 M ρ
set_option maxRecDepth 100000 in
set_option maxHeartbeats 4000000 in
theorem wX12_record {Γ : ao_C} {ρ : ao_H} (d : Nat) (hd : 1 ≤ d) : ∀ n : Nat, (∀ (r0 : Nat) (x1 : Int32) (x2 : Int32) (M : ao_M) (y : Int32 × ao_M), fX12_record n 0 r0 x1 x2 0 0 0 0 0 M ρ = some y → ao_W Γ uX12_record (ao_rm d 0 0) (ao_Q Γ (ao_PI ρ y) 0 0) 0 0 0 [some (.ref (Γ.2.2.2 + r0)), some (.int x1), some (.int x2), none, none] [] (M, ρ)) ∧ (∀ (r0 : Nat) (x1 : Int32) (x2 : Int32) (q0 : Nat) (M : ao_M) (y : Int32 × ao_M), fX12_record n 10 r0 x1 x2 0 0 q0 0 0 M ρ = some y → ao_W Γ uX12_record (ao_rm d 0 0) (ao_Q Γ (ao_PI ρ y) 0 0) 0 0 10 [some (.ref (Γ.2.2.2 + r0)), some (.int x1), some (.int x2), none, none] [.ref (Γ.2.2.2 + q0)] (M, ρ)) ∧ (∀ (r0 : Nat) (x1 : Int32) (x2 : Int32) (q0 : Nat) (M : ao_M) (y : Int32 × ao_M), fX12_record n 26 r0 x1 x2 0 0 q0 0 0 M ρ = some y → ao_W Γ uX12_record (ao_rm d 0 0) (ao_Q Γ (ao_PI ρ y) 0 0) 0 0 26 [some (.ref (Γ.2.2.2 + r0)), some (.int x1), some (.int x2), none, none] [.ref (Γ.2.2.2 + q0)] (M, ρ)) ∧ (∀ (r0 : Nat) (x1 : Int32) (x2 : Int32) (s0 : Int32) (q1 : Nat) (M : ao_M) (y : Int32 × ao_M), fX12_record n 31 r0 x1 x2 0 0 0 s0 q1 M ρ = some y → ao_W Γ uX12_record (ao_rm d 0 0) (ao_Q Γ (ao_PI ρ y) 0 0) 0 0 31 [some (.ref (Γ.2.2.2 + r0)), some (.int x1), some (.int x2), none, none] [.int s0, .ref (Γ.2.2.2 + q1)] (M, ρ)) ∧ (∀ (r0 : Nat) (x1 : Int32) (x2 : Int32) (x3 : Int32) (x4 : Int32) (M : ao_M) (y : Int32 × ao_M), fX12_record n 47 r0 x1 x2 x3 x4 0 0 0 M ρ = some y → ao_W Γ uX12_record (ao_rm d 0 0) (ao_Q Γ (ao_PI ρ y) 0 0) 0 0 47 [some (.ref (Γ.2.2.2 + r0)), some (.int x1), some (.int x2), some (.int x3), some (.int x4)] [] (M, ρ)) ∧ (∀ (r0 : Nat) (x1 : Int32) (x2 : Int32) (x3 : Int32) (x4 : Int32) (M : ao_M) (y : Int32 × ao_M), fX12_record n 87 r0 x1 x2 x3 x4 0 0 0 M ρ = some y → ao_W Γ uX12_record (ao_rm d 0 0) (ao_Q Γ (ao_PI ρ y) 0 0) 0 0 87 [some (.ref (Γ.2.2.2 + r0)), some (.int x1), some (.int x2), some (.int x3), some (.int x4)] [] (M, ρ)) ∧ (∀ (r0 : Nat) (x1 : Int32) (x2 : Int32) (x3 : Int32) (x4 : Int32) (M : ao_M) (y : Int32 × ao_M), fX12_record n 90 r0 x1 x2 x3 x4 0 0 0 M ρ = some y → ao_W Γ uX12_record (ao_rm d 0 0) (ao_Q Γ (ao_PI ρ y) 0 0) 0 0 90 [some (.ref (Γ.2.2.2 + r0)), some (.int x1), some (.int x2), some (.int x3), some (.int x4)] [] (M, ρ)) := by
  intro n
  induction n with
  | zero => exact ⟨fun _ _ _ _ _ h => ao_no h, fun _ _ _ _ _ _ h => ao_no h, fun _ _ _ _ _ _ h => ao_no h, fun _ _ _ _ _ _ _ h => ao_no h, fun _ _ _ _ _ _ _ h => ao_no h, fun _ _ _ _ _ _ _ h => ao_no h, fun _ _ _ _ _ _ _ h => ao_no h⟩
  | succ n ih =>
    refine ⟨?_, ?_, ?_, ?_, ?_, ?_, ?_⟩
    · intro r0 x1 x2 M y h
      replace h := ao_ifT h rfl
      refine ao_aload_n 0 dX12_record_0 rfl rfl ?_
      refine ao_iload_n 2 dX12_record_1 rfl rfl ?_
      refine ao_if_lt 10 dX12_record_2 (by decide) (fun c1 => ?_) (fun c1 => ?_)
      · replace h := ao_ifT h c1
        exact ih.2.1 r0 x1 x2 r0 M _ h
      · replace h := ao_ifF h c1
        refine ao_iload_n 2 dX12_record_5 rfl rfl ?_
        refine ao_iconst (v := 4) dX12_record_6 (by decide) ?_
        refine ao_icmp_le 14 dX12_record_7 (by decide) (fun c2 => ?_) (fun c2 => ?_)
        · replace h := ao_ifT h c2
          refine ao_iload_n 1 dX12_record_14 rfl rfl ?_
          refine ao_if_lt 26 dX12_record_15 (by decide) (fun c3 => ?_) (fun c3 => ?_)
          · replace h := ao_ifT h c3
            exact ih.2.2.1 r0 x1 x2 r0 M _ h
          · replace h := ao_ifF h c3
            refine ao_iload_n 1 dX12_record_18 rfl rfl ?_
            refine ao_aload_n 0 dX12_record_19 rfl rfl ?_
            obtain ⟨hk4, h⟩ := ao_some h
            refine an_getI r0 12 76 (q := (RX12, TX12, 83)) dX12_record_20 rfl hk4 (Nat.le_of_ble_eq_true rfl) rfl lf_X12_338 ?_
            refine ao_icmp_lt 30 dX12_record_23 (by decide) (fun c5 => ?_) (fun c5 => ?_)
            · replace h := ao_ifT h c5
              refine ao_iconst (v := 0) dX12_record_30 (by decide) ?_
              exact ih.2.2.2.1 r0 x1 x2 (0 : Int32) r0 M _ h
            · replace h := ao_ifF h c5
              exact ih.2.2.1 r0 x1 x2 r0 M _ h
        · replace h := ao_ifF h c2
          exact ih.2.1 r0 x1 x2 r0 M _ h
    · intro r0 x1 x2 q0 M y h
      replace h := ao_ifF h (by decide)
      replace h := ao_ifT h rfl
      refine ao_iconst (v := 1) dX12_record_10 (by decide) ?_
      refine ao_goto 31 dX12_record_11 (by decide) ?_
      exact ih.2.2.2.1 r0 x1 x2 (1 : Int32) q0 M _ h
    · intro r0 x1 x2 q0 M y h
      replace h := ao_ifF h (by decide)
      replace h := ao_ifF h (by decide)
      replace h := ao_ifT h rfl
      refine ao_iconst (v := 2) dX12_record_26 (by decide) ?_
      refine ao_goto 31 dX12_record_27 (by decide) ?_
      exact ih.2.2.2.1 r0 x1 x2 (2 : Int32) q0 M _ h
    · intro r0 x1 x2 s0 q1 M y h
      replace h := ao_ifF h (by decide)
      replace h := ao_ifF h (by decide)
      replace h := ao_ifF h (by decide)
      replace h := ao_ifT h rfl
      obtain ⟨hk6, h⟩ := ao_some h
      obtain ⟨p7, hp7, h⟩ := ao_bind h
      refine an_callVi q1 12 (q := (RX12, TX12, 83)) [.int s0] (aX12_fails (d - 1) (by omega) q1 s0 M ρ hp7) dX12_record_31 lc_X12_497 li_X12_fails ls_X12_fails rfl hk6 rfl rfl (Nat.le_of_ble_eq_true rfl) (ao_hR (by omega) (by decide)) ?_
      refine ao_if_eq 39 dX12_record_34 (by decide) (fun c8 => ?_) (fun c8 => ?_)
      · replace h := ao_ifT h c8
        refine ao_iconst (v := 0) dX12_record_39 (by decide) ?_
        refine ao_istore_n 3 (lo' := [some (.ref (Γ.2.2.2 + r0)), some (.int x1), some (.int x2), some (.int (0 : Int32)), none]) dX12_record_40 rfl (Nat.le_of_ble_eq_true rfl) rfl ?_
        refine ao_iload_n 1 dX12_record_41 rfl rfl ?_
        refine ao_bipush (v := 26) dX12_record_42 (by decide) ?_
        refine ao_imul dX12_record_44 ?_
        refine an_topi (fun v9 hv9 => ?_)
        replace h := ao_letD h hv9
        refine ao_istore 4 (lo' := [some (.ref (Γ.2.2.2 + r0)), some (.int x1), some (.int x2), some (.int (0 : Int32)), some (.int v9)]) dX12_record_45 (Nat.le_of_ble_eq_true rfl) rfl ?_
        exact ih.2.2.2.2.1 r0 x1 x2 (0 : Int32) v9 p7.2 _ h
      · replace h := ao_ifF h c8
        refine ao_iconst (v := 0) dX12_record_37 (by decide) ?_
        cases h
        exact ao_ireturn dX12_record_38 rfl rfl ⟨rfl, rfl⟩
    · intro r0 x1 x2 x3 x4 M y h
      replace h := ao_ifF h (by decide)
      replace h := ao_ifF h (by decide)
      replace h := ao_ifF h (by decide)
      replace h := ao_ifF h (by decide)
      replace h := ao_ifT h rfl
      refine ao_iload 4 dX12_record_47 rfl ?_
      refine ao_iload_n 1 dX12_record_49 rfl rfl ?_
      refine ao_bipush (v := 26) dX12_record_50 (by decide) ?_
      refine ao_imul dX12_record_52 ?_
      refine ao_bipush (v := 26) dX12_record_53 (by decide) ?_
      refine ao_iadd dX12_record_55 ?_
      refine ao_icmp_ge 96 dX12_record_56 (by decide) (fun c10 => ?_) (fun c10 => ?_)
      · replace h := ao_ifT h c10
        refine ao_iload_n 2 dX12_record_96 rfl rfl ?_
        refine ao_if_ne 109 dX12_record_97 (by decide) (fun c11 => ?_) (fun c11 => ?_)
        · replace h := ao_ifF h c11
          refine ao_iload_n 2 dX12_record_109 rfl rfl ?_
          refine ao_iconst (v := 3) dX12_record_110 (by decide) ?_
          refine ao_icmp_ne 123 dX12_record_111 (by decide) (fun c12 => ?_) (fun c12 => ?_)
          · replace h := ao_ifF h c12
            refine ao_iload_n 2 dX12_record_123 rfl rfl ?_
            refine ao_iconst (v := 4) dX12_record_124 (by decide) ?_
            refine ao_icmp_ne 137 dX12_record_125 (by decide) (fun c13 => ?_) (fun c13 => ?_)
            · replace h := ao_ifF h c13
              refine ao_iload_n 3 dX12_record_137 rfl rfl ?_
              cases h
              exact ao_ireturn dX12_record_138 rfl rfl ⟨rfl, rfl⟩
            · replace h := ao_ifT h c13
              refine ao_aload_n 0 dX12_record_128 rfl rfl ?_
              obtain ⟨hk14, h⟩ := ao_some h
              obtain ⟨j15, hj15, h⟩ := ao_bind h
              refine an_getR r0 12 71 (q := (RX12, TX12, 83)) dX12_record_129 rfl hk14 (Nat.le_of_ble_eq_true rfl) rfl lf_X12_302 hj15 ?_
              refine ao_iload_n 1 dX12_record_132 rfl rfl ?_
              obtain ⟨hk16, h⟩ := ao_some h
              obtain ⟨hb17, h⟩ := ao_some h
              refine an_iaload j15 dX12_record_133 hk16 hb17 ?_
              refine ao_goto 138 dX12_record_134 (by decide) ?_
              cases h
              exact ao_ireturn dX12_record_138 rfl rfl ⟨rfl, rfl⟩
          · replace h := ao_ifT h c12
            refine ao_aload_n 0 dX12_record_114 rfl rfl ?_
            obtain ⟨hk18, h⟩ := ao_some h
            obtain ⟨j19, hj19, h⟩ := ao_bind h
            refine an_getR r0 12 70 (q := (RX12, TX12, 83)) dX12_record_115 rfl hk18 (Nat.le_of_ble_eq_true rfl) rfl lf_X12_299 hj19 ?_
            refine ao_iload_n 1 dX12_record_118 rfl rfl ?_
            obtain ⟨hk20, h⟩ := ao_some h
            obtain ⟨hb21, h⟩ := ao_some h
            refine an_iaload j19 dX12_record_119 hk20 hb21 ?_
            refine ao_goto 138 dX12_record_120 (by decide) ?_
            cases h
            exact ao_ireturn dX12_record_138 rfl rfl ⟨rfl, rfl⟩
        · replace h := ao_ifT h c11
          refine ao_aload_n 0 dX12_record_100 rfl rfl ?_
          obtain ⟨hk22, h⟩ := ao_some h
          obtain ⟨j23, hj23, h⟩ := ao_bind h
          refine an_getR r0 12 69 (q := (RX12, TX12, 83)) dX12_record_101 rfl hk22 (Nat.le_of_ble_eq_true rfl) rfl lf_X12_296 hj23 ?_
          refine ao_iload_n 1 dX12_record_104 rfl rfl ?_
          obtain ⟨hk24, h⟩ := ao_some h
          obtain ⟨hb25, h⟩ := ao_some h
          refine an_iaload j23 dX12_record_105 hk24 hb25 ?_
          refine ao_goto 138 dX12_record_106 (by decide) ?_
          cases h
          exact ao_ireturn dX12_record_138 rfl rfl ⟨rfl, rfl⟩
      · replace h := ao_ifF h c10
        refine ao_iload_n 2 dX12_record_59 rfl rfl ?_
        refine ao_iconst (v := 1) dX12_record_60 (by decide) ?_
        refine ao_icmp_ne 77 dX12_record_61 (by decide) (fun c26 => ?_) (fun c26 => ?_)
        · replace h := ao_ifF h c26
          refine ao_aload_n 0 dX12_record_77 rfl rfl ?_
          obtain ⟨hk27, h⟩ := ao_some h
          obtain ⟨j28, hj28, h⟩ := ao_bind h
          refine an_getR r0 12 75 (q := (RX12, TX12, 83)) dX12_record_78 rfl hk27 (Nat.le_of_ble_eq_true rfl) rfl lf_X12_314 hj28 ?_
          refine ao_iload 4 dX12_record_81 rfl ?_
          obtain ⟨hk29, h⟩ := ao_some h
          obtain ⟨hb30, h⟩ := ao_some h
          refine an_zaload j28 dX12_record_83 hk29 hb30 ?_
          refine ao_if_eq 90 dX12_record_84 (by decide) (fun c31 => ?_) (fun c31 => ?_)
          · replace h := ao_ifT h c31
            exact ih.2.2.2.2.2.2 r0 x1 x2 x3 x4 M _ h
          · replace h := ao_ifF h c31
            exact ih.2.2.2.2.2.1 r0 x1 x2 x3 x4 M _ h
        · replace h := ao_ifT h c26
          refine ao_aload_n 0 dX12_record_64 rfl rfl ?_
          obtain ⟨hk32, h⟩ := ao_some h
          obtain ⟨j33, hj33, h⟩ := ao_bind h
          refine an_getR r0 12 74 (q := (RX12, TX12, 83)) dX12_record_65 rfl hk32 (Nat.le_of_ble_eq_true rfl) rfl lf_X12_311 hj33 ?_
          refine ao_iload 4 dX12_record_68 rfl ?_
          obtain ⟨hk34, h⟩ := ao_some h
          obtain ⟨hb35, h⟩ := ao_some h
          refine an_zaload j33 dX12_record_70 hk34 hb35 ?_
          refine ao_if_eq 90 dX12_record_71 (by decide) (fun c36 => ?_) (fun c36 => ?_)
          · replace h := ao_ifT h c36
            exact ih.2.2.2.2.2.2 r0 x1 x2 x3 x4 M _ h
          · replace h := ao_ifF h c36
            refine ao_goto 87 dX12_record_74 (by decide) ?_
            exact ih.2.2.2.2.2.1 r0 x1 x2 x3 x4 M _ h
    · intro r0 x1 x2 x3 x4 M y h
      replace h := ao_ifF h (by decide)
      replace h := ao_ifF h (by decide)
      replace h := ao_ifF h (by decide)
      replace h := ao_ifF h (by decide)
      replace h := ao_ifF h (by decide)
      replace h := ao_ifT h rfl
      obtain ⟨v37, hv37⟩ : ∃ z : Int32, z = x3 + (1 : Int32) := ⟨_, rfl⟩
      replace h := ao_letD h hv37
      refine ao_iinc 3 (v := v37) (lo' := [some (.ref (Γ.2.2.2 + r0)), some (.int x1), some (.int x2), some (.int v37), some (.int x4)]) dX12_record_87 rfl (by rw [hv37]; rfl) (Nat.le_of_ble_eq_true rfl) rfl ?_
      exact ih.2.2.2.2.2.2 r0 x1 x2 v37 x4 M _ h
    · intro r0 x1 x2 x3 x4 M y h
      replace h := ao_ifF h (by decide)
      replace h := ao_ifF h (by decide)
      replace h := ao_ifF h (by decide)
      replace h := ao_ifF h (by decide)
      replace h := ao_ifF h (by decide)
      replace h := ao_ifF h (by decide)
      replace h := ao_ifT h rfl
      obtain ⟨v38, hv38⟩ : ∃ z : Int32, z = x4 + (1 : Int32) := ⟨_, rfl⟩
      replace h := ao_letD h hv38
      refine ao_iinc 4 (v := v38) (lo' := [some (.ref (Γ.2.2.2 + r0)), some (.int x1), some (.int x2), some (.int x3), some (.int v38)]) dX12_record_90 rfl (by rw [hv38]; rfl) (Nat.le_of_ble_eq_true rfl) rfl ?_
      refine ao_goto 47 dX12_record_93 (by decide) ?_
      exact ih.2.2.2.2.1 r0 x1 x2 x3 v38 M _ h
set_option maxRecDepth 100000 in
set_option maxHeartbeats 4000000 in
theorem aX12_record {Γ : ao_C} (d : Nat) (hd : 1 ≤ d) (n : Nat) (r0 : Nat) (x1 : Int32) (x2 : Int32) (M : ao_M) (ρ : ao_H) {y : Int32 × ao_M} (h : gX12_record n r0 x1 x2 M ρ = some y) : ao_A Γ uX12_record d 0 0 [.ref (Γ.2.2.2 + r0), .int x1, .int x2] (M, ρ) (ao_PI ρ y) := by
  refine ao_of (by decide) (ao_cat1 (Nat.le_of_ble_eq_true rfl)) (Nat.le_of_ble_eq_true rfl) ?_
  show ao_W Γ uX12_record (ao_rm d 0 0) (ao_Q Γ (ao_PI ρ y) 0 0) 0 0 0 [some (.ref (Γ.2.2.2 + r0)), some (.int x1), some (.int x2), none, none] [] (M, ρ)
  exact (wX12_record d hd n).1 r0 x1 x2 M y h

abbrev uX12_count : ao_Mi := (yX12_count, cX12_count, 4, (some .int), [])
def fX12_count : Nat → Nat → Nat → Int32 → Int32 → Int32 → Nat → Int32 → Nat → Int32 →  ao_M → ao_H → Option (Int32 × ao_M)
  | 0, _, _, _, _, _, _, _, _, _, _, _ => none
  | n + 1, pc, r0, x1, x2, x3, q0, s0, q1, s1, M, ρ =>
    if pc = 0 then
      if x1 < 0 then
        fX12_count n 11 r0 x1 0 0 r0 0 0 0 M ρ
      else
        if x1 ≤ (8 : Int32) then
          fX12_count n 16 r0 x1 0 0 0 (0 : Int32) r0 0 M ρ
        else
          fX12_count n 11 r0 x1 0 0 r0 0 0 0 M ρ
    else if pc = 11 then
      fX12_count n 16 r0 x1 0 0 0 (1 : Int32) q0 0 M ρ
    else if pc = 16 then
      if ρ.2.1 q1 = 22 then
      (gX12_fails q1 s0 M ρ).bind fun p4 =>
      if p4.1 = 0 then
        if x1 = (0 : Int32) then
          if ρ.2.1 r0 = 22 then
          some ((p4.2 r0 6), p4.2)
          else none
        else
          if x1 = (1 : Int32) then
            if ρ.2.1 r0 = 22 then
            some ((p4.2 r0 27), p4.2)
            else none
          else
            if x1 = (2 : Int32) then
              if ρ.2.1 r0 = 22 then
              some ((p4.2 r0 26), p4.2)
              else none
            else
              if x1 = (3 : Int32) then
                if ρ.2.1 r0 = 22 then
                some ((p4.2 r0 65), p4.2)
                else none
              else
                if x1 = (4 : Int32) then
                  if ρ.2.1 r0 = 22 then
                  some ((p4.2 r0 68), p4.2)
                  else none
                else
                  if x1 = (5 : Int32) then
                    if ρ.2.1 r0 = 22 then
                    some ((p4.2 r0 76), p4.2)
                    else none
                  else
                    if x1 = (6 : Int32) then
                      fX12_count n 102 r0 x1 (0 : Int32) 0 0 0 0 0 p4.2 ρ
                    else
                      if x1 = (7 : Int32) then
                        fX12_count n 102 r0 x1 (0 : Int32) 0 0 0 0 0 p4.2 ρ
                      else
                        fX12_count n 143 r0 x1 (0 : Int32) (0 : Int32) 0 0 0 0 p4.2 ρ
      else
        some ((0 : Int32), p4.2)
      else none
    else if pc = 102 then
      fX12_count n 104 r0 x1 x2 (0 : Int32) 0 0 0 0 M ρ
    else if pc = 104 then
      if (6 : Int32) ≤ x3 then
        some (x2, M)
      else
        if ρ.2.1 r0 = 22 then
        (ρ.1 r0 29).bind fun j22 =>
        if ρ.2.1 j22 = 0 then
        if ¬ (x3 < 0 ∨ ρ.2.2.1 j22 ≤ x3.toNatClampNeg) then
        if x1 = (6 : Int32) then
          fX12_count n 127 r0 x1 x2 x3 0 (2 : Int32) 0 (M j22 x3.toNatClampNeg) M ρ
        else
          fX12_count n 127 r0 x1 x2 x3 0 (3 : Int32) 0 (M j22 x3.toNatClampNeg) M ρ
        else none
        else none
        else none
    else if pc = 127 then
      if s1 = s0 then
        ao_let (x2 + (1 : Int32)) fun v27 =>
        fX12_count n 133 r0 x1 v27 x3 0 0 0 0 M ρ
      else
        fX12_count n 133 r0 x1 x2 x3 0 0 0 0 M ρ
    else if pc = 133 then
      ao_let (x3 + (1 : Int32)) fun v28 =>
      fX12_count n 104 r0 x1 x2 v28 0 0 0 0 M ρ
    else if pc = 143 then
      if (26 : Int32) ≤ x3 then
        some (x2, M)
      else
        if ρ.2.1 r0 = 22 then
        (ρ.1 r0 19).bind fun j31 =>
        if ρ.2.1 j31 = 0 then
        if ¬ (x3 < 0 ∨ ρ.2.2.1 j31 ≤ x3.toNatClampNeg) then
        if (M j31 x3.toNatClampNeg) < 0 then
          fX12_count n 161 r0 x1 x2 x3 0 0 0 0 M ρ
        else
          ao_let (x2 + (1 : Int32)) fun v35 =>
          fX12_count n 161 r0 x1 v35 x3 0 0 0 0 M ρ
        else none
        else none
        else none
    else if pc = 161 then
      ao_let (x3 + (1 : Int32)) fun v36 =>
      fX12_count n 143 r0 x1 x2 v36 0 0 0 0 M ρ
    else none
def gX12_count (n : Nat) (r0 : Nat) (x1 : Int32) (M : ao_M) (ρ : ao_H) : Option (Int32 × ao_M) := fX12_count n 0 r0 x1 0 0 0 0 0 0 M ρ
set_option maxRecDepth 100000 in
set_option maxHeartbeats 4000000 in
theorem wX12_count {Γ : ao_C} {ρ : ao_H} (d : Nat) (hd : 1 ≤ d) : ∀ n : Nat, (∀ (r0 : Nat) (x1 : Int32) (M : ao_M) (y : Int32 × ao_M), fX12_count n 0 r0 x1 0 0 0 0 0 0 M ρ = some y → ao_W Γ uX12_count (ao_rm d 0 0) (ao_Q Γ (ao_PI ρ y) 0 0) 0 0 0 [some (.ref (Γ.2.2.2 + r0)), some (.int x1), none, none] [] (M, ρ)) ∧ (∀ (r0 : Nat) (x1 : Int32) (q0 : Nat) (M : ao_M) (y : Int32 × ao_M), fX12_count n 11 r0 x1 0 0 q0 0 0 0 M ρ = some y → ao_W Γ uX12_count (ao_rm d 0 0) (ao_Q Γ (ao_PI ρ y) 0 0) 0 0 11 [some (.ref (Γ.2.2.2 + r0)), some (.int x1), none, none] [.ref (Γ.2.2.2 + q0)] (M, ρ)) ∧ (∀ (r0 : Nat) (x1 : Int32) (s0 : Int32) (q1 : Nat) (M : ao_M) (y : Int32 × ao_M), fX12_count n 16 r0 x1 0 0 0 s0 q1 0 M ρ = some y → ao_W Γ uX12_count (ao_rm d 0 0) (ao_Q Γ (ao_PI ρ y) 0 0) 0 0 16 [some (.ref (Γ.2.2.2 + r0)), some (.int x1), none, none] [.int s0, .ref (Γ.2.2.2 + q1)] (M, ρ)) ∧ (∀ (r0 : Nat) (x1 : Int32) (x2 : Int32) (M : ao_M) (y : Int32 × ao_M), fX12_count n 102 r0 x1 x2 0 0 0 0 0 M ρ = some y → ao_W Γ uX12_count (ao_rm d 0 0) (ao_Q Γ (ao_PI ρ y) 0 0) 0 0 102 [some (.ref (Γ.2.2.2 + r0)), some (.int x1), some (.int x2), none] [] (M, ρ)) ∧ (∀ (r0 : Nat) (x1 : Int32) (x2 : Int32) (x3 : Int32) (M : ao_M) (y : Int32 × ao_M), fX12_count n 104 r0 x1 x2 x3 0 0 0 0 M ρ = some y → ao_W Γ uX12_count (ao_rm d 0 0) (ao_Q Γ (ao_PI ρ y) 0 0) 0 0 104 [some (.ref (Γ.2.2.2 + r0)), some (.int x1), some (.int x2), some (.int x3)] [] (M, ρ)) ∧ (∀ (r0 : Nat) (x1 : Int32) (x2 : Int32) (x3 : Int32) (s0 : Int32) (s1 : Int32) (M : ao_M) (y : Int32 × ao_M), fX12_count n 127 r0 x1 x2 x3 0 s0 0 s1 M ρ = some y → ao_W Γ uX12_count (ao_rm d 0 0) (ao_Q Γ (ao_PI ρ y) 0 0) 0 0 127 [some (.ref (Γ.2.2.2 + r0)), some (.int x1), some (.int x2), some (.int x3)] [.int s0, .int s1] (M, ρ)) ∧ (∀ (r0 : Nat) (x1 : Int32) (x2 : Int32) (x3 : Int32) (M : ao_M) (y : Int32 × ao_M), fX12_count n 133 r0 x1 x2 x3 0 0 0 0 M ρ = some y → ao_W Γ uX12_count (ao_rm d 0 0) (ao_Q Γ (ao_PI ρ y) 0 0) 0 0 133 [some (.ref (Γ.2.2.2 + r0)), some (.int x1), some (.int x2), some (.int x3)] [] (M, ρ)) ∧ (∀ (r0 : Nat) (x1 : Int32) (x2 : Int32) (x3 : Int32) (M : ao_M) (y : Int32 × ao_M), fX12_count n 143 r0 x1 x2 x3 0 0 0 0 M ρ = some y → ao_W Γ uX12_count (ao_rm d 0 0) (ao_Q Γ (ao_PI ρ y) 0 0) 0 0 143 [some (.ref (Γ.2.2.2 + r0)), some (.int x1), some (.int x2), some (.int x3)] [] (M, ρ)) ∧ (∀ (r0 : Nat) (x1 : Int32) (x2 : Int32) (x3 : Int32) (M : ao_M) (y : Int32 × ao_M), fX12_count n 161 r0 x1 x2 x3 0 0 0 0 M ρ = some y → ao_W Γ uX12_count (ao_rm d 0 0) (ao_Q Γ (ao_PI ρ y) 0 0) 0 0 161 [some (.ref (Γ.2.2.2 + r0)), some (.int x1), some (.int x2), some (.int x3)] [] (M, ρ)) := by
  intro n
  induction n with
  | zero => exact ⟨fun _ _ _ _ h => ao_no h, fun _ _ _ _ _ h => ao_no h, fun _ _ _ _ _ _ h => ao_no h, fun _ _ _ _ _ h => ao_no h, fun _ _ _ _ _ _ h => ao_no h, fun _ _ _ _ _ _ _ _ h => ao_no h, fun _ _ _ _ _ _ h => ao_no h, fun _ _ _ _ _ _ h => ao_no h, fun _ _ _ _ _ _ h => ao_no h⟩
  | succ n ih =>
    refine ⟨?_, ?_, ?_, ?_, ?_, ?_, ?_, ?_, ?_⟩
    · intro r0 x1 M y h
      replace h := ao_ifT h rfl
      refine ao_aload_n 0 dX12_count_0 rfl rfl ?_
      refine ao_iload_n 1 dX12_count_1 rfl rfl ?_
      refine ao_if_lt 11 dX12_count_2 (by decide) (fun c1 => ?_) (fun c1 => ?_)
      · replace h := ao_ifT h c1
        exact ih.2.1 r0 x1 r0 M _ h
      · replace h := ao_ifF h c1
        refine ao_iload_n 1 dX12_count_5 rfl rfl ?_
        refine ao_bipush (v := 8) dX12_count_6 (by decide) ?_
        refine ao_icmp_le 15 dX12_count_8 (by decide) (fun c2 => ?_) (fun c2 => ?_)
        · replace h := ao_ifT h c2
          refine ao_iconst (v := 0) dX12_count_15 (by decide) ?_
          exact ih.2.2.1 r0 x1 (0 : Int32) r0 M _ h
        · replace h := ao_ifF h c2
          exact ih.2.1 r0 x1 r0 M _ h
    · intro r0 x1 q0 M y h
      replace h := ao_ifF h (by decide)
      replace h := ao_ifT h rfl
      refine ao_iconst (v := 1) dX12_count_11 (by decide) ?_
      refine ao_goto 16 dX12_count_12 (by decide) ?_
      exact ih.2.2.1 r0 x1 (1 : Int32) q0 M _ h
    · intro r0 x1 s0 q1 M y h
      replace h := ao_ifF h (by decide)
      replace h := ao_ifF h (by decide)
      replace h := ao_ifT h rfl
      obtain ⟨hk3, h⟩ := ao_some h
      obtain ⟨p4, hp4, h⟩ := ao_bind h
      refine an_callVi q1 12 (q := (RX12, TX12, 83)) [.int s0] (aX12_fails (d - 1) (by omega) q1 s0 M ρ hp4) dX12_count_16 lc_X12_497 li_X12_fails ls_X12_fails rfl hk3 rfl rfl (Nat.le_of_ble_eq_true rfl) (ao_hR (by omega) (by decide)) ?_
      refine ao_if_eq 24 dX12_count_19 (by decide) (fun c5 => ?_) (fun c5 => ?_)
      · replace h := ao_ifT h c5
        refine ao_iconst (v := 0) dX12_count_24 (by decide) ?_
        refine ao_istore_n 2 (lo' := [some (.ref (Γ.2.2.2 + r0)), some (.int x1), some (.int (0 : Int32)), none]) dX12_count_25 rfl (Nat.le_of_ble_eq_true rfl) rfl ?_
        refine ao_iload_n 1 dX12_count_26 rfl rfl ?_
        by_cases c6 : x1 = (0 : Int32)
        · replace h := ao_ifT h c6
          refine ao_tableIn 72 dX12_count_27 (by rw [c6]; decide) (by rw [c6]; decide) (by rw [c6]; rfl) (by decide) ?_
          refine ao_aload_n 0 dX12_count_72 rfl rfl ?_
          obtain ⟨hk7, h⟩ := ao_some h
          refine an_getI r0 12 6 (q := (RX12, TX12, 83)) dX12_count_73 rfl hk7 (Nat.le_of_ble_eq_true rfl) rfl lf_X12_494 ?_
          cases h
          exact ao_ireturn dX12_count_76 rfl rfl ⟨rfl, rfl⟩
        · replace h := ao_ifF h c6
          by_cases c8 : x1 = (1 : Int32)
          · replace h := ao_ifT h c8
            refine ao_tableIn 77 dX12_count_27 (by rw [c8]; decide) (by rw [c8]; decide) (by rw [c8]; rfl) (by decide) ?_
            refine ao_aload_n 0 dX12_count_77 rfl rfl ?_
            obtain ⟨hk9, h⟩ := ao_some h
            refine an_getI r0 12 27 (q := (RX12, TX12, 83)) dX12_count_78 rfl hk9 (Nat.le_of_ble_eq_true rfl) rfl lf_X12_332 ?_
            cases h
            exact ao_ireturn dX12_count_81 rfl rfl ⟨rfl, rfl⟩
          · replace h := ao_ifF h c8
            by_cases c10 : x1 = (2 : Int32)
            · replace h := ao_ifT h c10
              refine ao_tableIn 82 dX12_count_27 (by rw [c10]; decide) (by rw [c10]; decide) (by rw [c10]; rfl) (by decide) ?_
              refine ao_aload_n 0 dX12_count_82 rfl rfl ?_
              obtain ⟨hk11, h⟩ := ao_some h
              refine an_getI r0 12 26 (q := (RX12, TX12, 83)) dX12_count_83 rfl hk11 (Nat.le_of_ble_eq_true rfl) rfl lf_X12_148 ?_
              cases h
              exact ao_ireturn dX12_count_86 rfl rfl ⟨rfl, rfl⟩
            · replace h := ao_ifF h c10
              by_cases c12 : x1 = (3 : Int32)
              · replace h := ao_ifT h c12
                refine ao_tableIn 87 dX12_count_27 (by rw [c12]; decide) (by rw [c12]; decide) (by rw [c12]; rfl) (by decide) ?_
                refine ao_aload_n 0 dX12_count_87 rfl rfl ?_
                obtain ⟨hk13, h⟩ := ao_some h
                refine an_getI r0 12 65 (q := (RX12, TX12, 83)) dX12_count_88 rfl hk13 (Nat.le_of_ble_eq_true rfl) rfl lf_X12_341 ?_
                cases h
                exact ao_ireturn dX12_count_91 rfl rfl ⟨rfl, rfl⟩
              · replace h := ao_ifF h c12
                by_cases c14 : x1 = (4 : Int32)
                · replace h := ao_ifT h c14
                  refine ao_tableIn 92 dX12_count_27 (by rw [c14]; decide) (by rw [c14]; decide) (by rw [c14]; rfl) (by decide) ?_
                  refine ao_aload_n 0 dX12_count_92 rfl rfl ?_
                  obtain ⟨hk15, h⟩ := ao_some h
                  refine an_getI r0 12 68 (q := (RX12, TX12, 83)) dX12_count_93 rfl hk15 (Nat.le_of_ble_eq_true rfl) rfl lf_X12_335 ?_
                  cases h
                  exact ao_ireturn dX12_count_96 rfl rfl ⟨rfl, rfl⟩
                · replace h := ao_ifF h c14
                  by_cases c16 : x1 = (5 : Int32)
                  · replace h := ao_ifT h c16
                    refine ao_tableIn 97 dX12_count_27 (by rw [c16]; decide) (by rw [c16]; decide) (by rw [c16]; rfl) (by decide) ?_
                    refine ao_aload_n 0 dX12_count_97 rfl rfl ?_
                    obtain ⟨hk17, h⟩ := ao_some h
                    refine an_getI r0 12 76 (q := (RX12, TX12, 83)) dX12_count_98 rfl hk17 (Nat.le_of_ble_eq_true rfl) rfl lf_X12_338 ?_
                    cases h
                    exact ao_ireturn dX12_count_101 rfl rfl ⟨rfl, rfl⟩
                  · replace h := ao_ifF h c16
                    by_cases c18 : x1 = (6 : Int32)
                    · replace h := ao_ifT h c18
                      refine ao_tableIn 102 dX12_count_27 (by rw [c18]; decide) (by rw [c18]; decide) (by rw [c18]; rfl) (by decide) ?_
                      exact ih.2.2.2.1 r0 x1 (0 : Int32) p4.2 _ h
                    · replace h := ao_ifF h c18
                      by_cases c19 : x1 = (7 : Int32)
                      · replace h := ao_ifT h c19
                        refine ao_tableIn 102 dX12_count_27 (by rw [c19]; decide) (by rw [c19]; decide) (by rw [c19]; rfl) (by decide) ?_
                        exact ih.2.2.2.1 r0 x1 (0 : Int32) p4.2 _ h
                      · replace h := ao_ifF h c19
                        refine ao_tableOut 141 dX12_count_27 (by have nc6 := ao_ne (z := 0) c6 (by decide); have nc8 := ao_ne (z := 1) c8 (by decide); have nc10 := ao_ne (z := 2) c10 (by decide); have nc12 := ao_ne (z := 3) c12 (by decide); have nc14 := ao_ne (z := 4) c14 (by decide); have nc16 := ao_ne (z := 5) c16 (by decide); have nc18 := ao_ne (z := 6) c18 (by decide); have nc19 := ao_ne (z := 7) c19 (by decide); omega) (by decide) ?_
                        refine ao_iconst (v := 0) dX12_count_141 (by decide) ?_
                        refine ao_istore_n 3 (lo' := [some (.ref (Γ.2.2.2 + r0)), some (.int x1), some (.int (0 : Int32)), some (.int (0 : Int32))]) dX12_count_142 rfl (Nat.le_of_ble_eq_true rfl) rfl ?_
                        exact ih.2.2.2.2.2.2.2.1 r0 x1 (0 : Int32) (0 : Int32) p4.2 _ h
      · replace h := ao_ifF h c5
        refine ao_iconst (v := 0) dX12_count_22 (by decide) ?_
        cases h
        exact ao_ireturn dX12_count_23 rfl rfl ⟨rfl, rfl⟩
    · intro r0 x1 x2 M y h
      replace h := ao_ifF h (by decide)
      replace h := ao_ifF h (by decide)
      replace h := ao_ifF h (by decide)
      replace h := ao_ifT h rfl
      refine ao_iconst (v := 0) dX12_count_102 (by decide) ?_
      refine ao_istore_n 3 (lo' := [some (.ref (Γ.2.2.2 + r0)), some (.int x1), some (.int x2), some (.int (0 : Int32))]) dX12_count_103 rfl (Nat.le_of_ble_eq_true rfl) rfl ?_
      exact ih.2.2.2.2.1 r0 x1 x2 (0 : Int32) M _ h
    · intro r0 x1 x2 x3 M y h
      replace h := ao_ifF h (by decide)
      replace h := ao_ifF h (by decide)
      replace h := ao_ifF h (by decide)
      replace h := ao_ifF h (by decide)
      replace h := ao_ifT h rfl
      refine ao_iload_n 3 dX12_count_104 rfl rfl ?_
      refine ao_bipush (v := 6) dX12_count_105 (by decide) ?_
      refine ao_icmp_ge 139 dX12_count_107 (by decide) (fun c20 => ?_) (fun c20 => ?_)
      · replace h := ao_ifT h c20
        refine ao_iload_n 2 dX12_count_139 rfl rfl ?_
        cases h
        exact ao_ireturn dX12_count_140 rfl rfl ⟨rfl, rfl⟩
      · replace h := ao_ifF h c20
        refine ao_aload_n 0 dX12_count_110 rfl rfl ?_
        obtain ⟨hk21, h⟩ := ao_some h
        obtain ⟨j22, hj22, h⟩ := ao_bind h
        refine an_getR r0 12 29 (q := (RX12, TX12, 83)) dX12_count_111 rfl hk21 (Nat.le_of_ble_eq_true rfl) rfl lf_X12_187 hj22 ?_
        refine ao_iload_n 3 dX12_count_114 rfl rfl ?_
        obtain ⟨hk23, h⟩ := ao_some h
        obtain ⟨hb24, h⟩ := ao_some h
        refine an_iaload j22 dX12_count_115 hk23 hb24 ?_
        refine ao_iload_n 1 dX12_count_116 rfl rfl ?_
        refine ao_bipush (v := 6) dX12_count_117 (by decide) ?_
        refine ao_icmp_ne 126 dX12_count_119 (by decide) (fun c25 => ?_) (fun c25 => ?_)
        · replace h := ao_ifF h c25
          refine ao_iconst (v := 3) dX12_count_126 (by decide) ?_
          exact ih.2.2.2.2.2.1 r0 x1 x2 x3 (3 : Int32) (M j22 x3.toNatClampNeg) M _ h
        · replace h := ao_ifT h c25
          refine ao_iconst (v := 2) dX12_count_122 (by decide) ?_
          refine ao_goto 127 dX12_count_123 (by decide) ?_
          exact ih.2.2.2.2.2.1 r0 x1 x2 x3 (2 : Int32) (M j22 x3.toNatClampNeg) M _ h
    · intro r0 x1 x2 x3 s0 s1 M y h
      replace h := ao_ifF h (by decide)
      replace h := ao_ifF h (by decide)
      replace h := ao_ifF h (by decide)
      replace h := ao_ifF h (by decide)
      replace h := ao_ifF h (by decide)
      replace h := ao_ifT h rfl
      refine ao_icmp_ne 133 dX12_count_127 (by decide) (fun c26 => ?_) (fun c26 => ?_)
      · replace h := ao_ifF h c26
        exact ih.2.2.2.2.2.2.1 r0 x1 x2 x3 M _ h
      · replace h := ao_ifT h c26
        obtain ⟨v27, hv27⟩ : ∃ z : Int32, z = x2 + (1 : Int32) := ⟨_, rfl⟩
        replace h := ao_letD h hv27
        refine ao_iinc 2 (v := v27) (lo' := [some (.ref (Γ.2.2.2 + r0)), some (.int x1), some (.int v27), some (.int x3)]) dX12_count_130 rfl (by rw [hv27]; rfl) (Nat.le_of_ble_eq_true rfl) rfl ?_
        exact ih.2.2.2.2.2.2.1 r0 x1 v27 x3 M _ h
    · intro r0 x1 x2 x3 M y h
      replace h := ao_ifF h (by decide)
      replace h := ao_ifF h (by decide)
      replace h := ao_ifF h (by decide)
      replace h := ao_ifF h (by decide)
      replace h := ao_ifF h (by decide)
      replace h := ao_ifF h (by decide)
      replace h := ao_ifT h rfl
      obtain ⟨v28, hv28⟩ : ∃ z : Int32, z = x3 + (1 : Int32) := ⟨_, rfl⟩
      replace h := ao_letD h hv28
      refine ao_iinc 3 (v := v28) (lo' := [some (.ref (Γ.2.2.2 + r0)), some (.int x1), some (.int x2), some (.int v28)]) dX12_count_133 rfl (by rw [hv28]; rfl) (Nat.le_of_ble_eq_true rfl) rfl ?_
      refine ao_goto 104 dX12_count_136 (by decide) ?_
      exact ih.2.2.2.2.1 r0 x1 x2 v28 M _ h
    · intro r0 x1 x2 x3 M y h
      replace h := ao_ifF h (by decide)
      replace h := ao_ifF h (by decide)
      replace h := ao_ifF h (by decide)
      replace h := ao_ifF h (by decide)
      replace h := ao_ifF h (by decide)
      replace h := ao_ifF h (by decide)
      replace h := ao_ifF h (by decide)
      replace h := ao_ifT h rfl
      refine ao_iload_n 3 dX12_count_143 rfl rfl ?_
      refine ao_bipush (v := 26) dX12_count_144 (by decide) ?_
      refine ao_icmp_ge 167 dX12_count_146 (by decide) (fun c29 => ?_) (fun c29 => ?_)
      · replace h := ao_ifT h c29
        refine ao_iload_n 2 dX12_count_167 rfl rfl ?_
        cases h
        exact ao_ireturn dX12_count_168 rfl rfl ⟨rfl, rfl⟩
      · replace h := ao_ifF h c29
        refine ao_aload_n 0 dX12_count_149 rfl rfl ?_
        obtain ⟨hk30, h⟩ := ao_some h
        obtain ⟨j31, hj31, h⟩ := ao_bind h
        refine an_getR r0 12 19 (q := (RX12, TX12, 83)) dX12_count_150 rfl hk30 (Nat.le_of_ble_eq_true rfl) rfl lf_X12_177 hj31 ?_
        refine ao_iload_n 3 dX12_count_153 rfl rfl ?_
        obtain ⟨hk32, h⟩ := ao_some h
        obtain ⟨hb33, h⟩ := ao_some h
        refine an_iaload j31 dX12_count_154 hk32 hb33 ?_
        refine ao_if_lt 161 dX12_count_155 (by decide) (fun c34 => ?_) (fun c34 => ?_)
        · replace h := ao_ifT h c34
          exact ih.2.2.2.2.2.2.2.2 r0 x1 x2 x3 M _ h
        · replace h := ao_ifF h c34
          obtain ⟨v35, hv35⟩ : ∃ z : Int32, z = x2 + (1 : Int32) := ⟨_, rfl⟩
          replace h := ao_letD h hv35
          refine ao_iinc 2 (v := v35) (lo' := [some (.ref (Γ.2.2.2 + r0)), some (.int x1), some (.int v35), some (.int x3)]) dX12_count_158 rfl (by rw [hv35]; rfl) (Nat.le_of_ble_eq_true rfl) rfl ?_
          exact ih.2.2.2.2.2.2.2.2 r0 x1 v35 x3 M _ h
    · intro r0 x1 x2 x3 M y h
      replace h := ao_ifF h (by decide)
      replace h := ao_ifF h (by decide)
      replace h := ao_ifF h (by decide)
      replace h := ao_ifF h (by decide)
      replace h := ao_ifF h (by decide)
      replace h := ao_ifF h (by decide)
      replace h := ao_ifF h (by decide)
      replace h := ao_ifF h (by decide)
      replace h := ao_ifT h rfl
      obtain ⟨v36, hv36⟩ : ∃ z : Int32, z = x3 + (1 : Int32) := ⟨_, rfl⟩
      replace h := ao_letD h hv36
      refine ao_iinc 3 (v := v36) (lo' := [some (.ref (Γ.2.2.2 + r0)), some (.int x1), some (.int x2), some (.int v36)]) dX12_count_161 rfl (by rw [hv36]; rfl) (Nat.le_of_ble_eq_true rfl) rfl ?_
      refine ao_goto 143 dX12_count_164 (by decide) ?_
      exact ih.2.2.2.2.2.2.2.1 r0 x1 x2 v36 M _ h
set_option maxRecDepth 100000 in
set_option maxHeartbeats 4000000 in
theorem aX12_count {Γ : ao_C} (d : Nat) (hd : 1 ≤ d) (n : Nat) (r0 : Nat) (x1 : Int32) (M : ao_M) (ρ : ao_H) {y : Int32 × ao_M} (h : gX12_count n r0 x1 M ρ = some y) : ao_A Γ uX12_count d 0 0 [.ref (Γ.2.2.2 + r0), .int x1] (M, ρ) (ao_PI ρ y) := by
  refine ao_of (by decide) (ao_cat1 (Nat.le_of_ble_eq_true rfl)) (Nat.le_of_ble_eq_true rfl) ?_
  show ao_W Γ uX12_count (ao_rm d 0 0) (ao_Q Γ (ao_PI ρ y) 0 0) 0 0 0 [some (.ref (Γ.2.2.2 + r0)), some (.int x1), none, none] [] (M, ρ)
  exact (wX12_count d hd n).1 r0 x1 M y h

abbrev uX12_reset : ao_Mi := (yX12_reset, cX12_reset, 3, none, [])
def fX12_reset : Nat → Nat → Nat → Int32 → Int32 →  ao_M → ao_H → Option (ao_M)
  | 0, _, _, _, _, _, _ => none
  | n + 1, pc, r0, x1, x2, M, ρ =>
    if pc = 0 then
      if ρ.2.1 r0 = 22 then
      (ρ.1 r0 29).bind fun j2 =>
      if ρ.2.1 j2 = 0 then
      if ¬ (x1 < 0 ∨ ρ.2.2.1 j2 ≤ x1.toNatClampNeg) then
      if (M j2 x1.toNatClampNeg) = 0 then
        fX12_reset n 16 r0 x1 0 M ρ
      else
        ao_let (ao_u M j2 x1.toNatClampNeg (1 : Int32)) fun M6 =>
        fX12_reset n 16 r0 x1 0 M6 ρ
      else none
      else none
      else none
    else if pc = 16 then
      if ρ.2.1 r0 = 22 then
      (ρ.1 r0 30).bind fun j8 =>
      if ρ.2.1 j8 = 0 then
      if ¬ (x1 < 0 ∨ ρ.2.2.1 j8 ≤ x1.toNatClampNeg) then
      ao_let (ao_u M j8 x1.toNatClampNeg (0 : Int32)) fun M11 =>
      (ρ.1 r0 33).bind fun j12 =>
      if ρ.2.1 j12 = 0 then
      if ¬ (x1 < 0 ∨ ρ.2.2.1 j12 ≤ x1.toNatClampNeg) then
      ao_let (ao_u M11 j12 x1.toNatClampNeg (0 : Int32)) fun M15 =>
      (ρ.1 r0 34).bind fun j16 =>
      if ρ.2.1 j16 = 0 then
      if ¬ (x1 < 0 ∨ ρ.2.2.1 j16 ≤ x1.toNatClampNeg) then
      ao_let (ao_u M15 j16 x1.toNatClampNeg (0 : Int32)) fun M19 =>
      (ρ.1 r0 35).bind fun j20 =>
      if ρ.2.1 j20 = 0 then
      if ¬ (x1 < 0 ∨ ρ.2.2.1 j20 ≤ x1.toNatClampNeg) then
      ao_let (ao_u M19 j20 x1.toNatClampNeg (0 : Int32)) fun M23 =>
      (ρ.1 r0 36).bind fun j24 =>
      if ρ.2.1 j24 = 0 then
      if ¬ (x1 < 0 ∨ ρ.2.2.1 j24 ≤ x1.toNatClampNeg) then
      ao_let (ao_u M23 j24 x1.toNatClampNeg (0 : Int32)) fun M27 =>
      (ρ.1 r0 37).bind fun j28 =>
      if ρ.2.1 j28 = 0 then
      if ¬ (x1 < 0 ∨ ρ.2.2.1 j28 ≤ x1.toNatClampNeg) then
      ao_let (ao_u M27 j28 x1.toNatClampNeg (0 : Int32)) fun M31 =>
      (ρ.1 r0 39).bind fun j32 =>
      if ρ.2.1 j32 = 0 then
      if ¬ (x1 < 0 ∨ ρ.2.2.1 j32 ≤ x1.toNatClampNeg) then
      ao_let (ao_u M31 j32 x1.toNatClampNeg (0 : Int32)) fun M35 =>
      (ρ.1 r0 40).bind fun j36 =>
      if ρ.2.1 j36 = 0 then
      if ¬ (x1 < 0 ∨ ρ.2.2.1 j36 ≤ x1.toNatClampNeg) then
      ao_let (ao_u M35 j36 x1.toNatClampNeg (0 : Int32)) fun M39 =>
      fX12_reset n 74 r0 x1 (0 : Int32) M39 ρ
      else none
      else none
      else none
      else none
      else none
      else none
      else none
      else none
      else none
      else none
      else none
      else none
      else none
      else none
      else none
      else none
      else none
    else if pc = 74 then
      if (26 : Int32) ≤ x2 then
        if ρ.2.1 r0 = 22 then
        (gX12_clearLevel n r0 x1 (0 : Int32) M ρ).bind fun p42 =>
        some p42
        else none
      else
        if ρ.2.1 r0 = 22 then
        (ρ.1 r0 31).bind fun j44 =>
        if ρ.2.1 j44 = 0 then
        if ¬ (((x1 * (26 : Int32)) + x2) < 0 ∨ ρ.2.2.1 j44 ≤ ((x1 * (26 : Int32)) + x2).toNatClampNeg) then
        ao_let (ao_u M j44 ((x1 * (26 : Int32)) + x2).toNatClampNeg (0 : Int32)) fun M47 =>
        ao_let (x2 + (1 : Int32)) fun v48 =>
        fX12_reset n 74 r0 x1 v48 M47 ρ
        else none
        else none
        else none
    else none
def gX12_reset (n : Nat) (r0 : Nat) (x1 : Int32) (M : ao_M) (ρ : ao_H) : Option (ao_M) := fX12_reset n 0 r0 x1 0 M ρ
set_option maxRecDepth 100000 in
set_option maxHeartbeats 4000000 in
theorem wX12_reset {Γ : ao_C} {ρ : ao_H} (d : Nat) (hd : 2 ≤ d) : ∀ n : Nat, (∀ (r0 : Nat) (x1 : Int32) (M : ao_M) (y : ao_M), fX12_reset n 0 r0 x1 0 M ρ = some y → ao_W Γ uX12_reset (ao_rm d 0 0) (ao_Q Γ (ao_PV ρ y) 0 0) 0 0 0 [some (.ref (Γ.2.2.2 + r0)), some (.int x1), none] [] (M, ρ)) ∧ (∀ (r0 : Nat) (x1 : Int32) (M : ao_M) (y : ao_M), fX12_reset n 16 r0 x1 0 M ρ = some y → ao_W Γ uX12_reset (ao_rm d 0 0) (ao_Q Γ (ao_PV ρ y) 0 0) 0 0 16 [some (.ref (Γ.2.2.2 + r0)), some (.int x1), none] [] (M, ρ)) ∧ (∀ (r0 : Nat) (x1 : Int32) (x2 : Int32) (M : ao_M) (y : ao_M), fX12_reset n 74 r0 x1 x2 M ρ = some y → ao_W Γ uX12_reset (ao_rm d 0 0) (ao_Q Γ (ao_PV ρ y) 0 0) 0 0 74 [some (.ref (Γ.2.2.2 + r0)), some (.int x1), some (.int x2)] [] (M, ρ)) := by
  intro n
  induction n with
  | zero => exact ⟨fun _ _ _ _ h => ao_no h, fun _ _ _ _ h => ao_no h, fun _ _ _ _ _ h => ao_no h⟩
  | succ n ih =>
    refine ⟨?_, ?_, ?_⟩
    · intro r0 x1 M y h
      replace h := ao_ifT h rfl
      refine ao_aload_n 0 dX12_reset_0 rfl rfl ?_
      obtain ⟨hk1, h⟩ := ao_some h
      obtain ⟨j2, hj2, h⟩ := ao_bind h
      refine an_getR r0 12 29 (q := (RX12, TX12, 83)) dX12_reset_1 rfl hk1 (Nat.le_of_ble_eq_true rfl) rfl lf_X12_187 hj2 ?_
      refine ao_iload_n 1 dX12_reset_4 rfl rfl ?_
      obtain ⟨hk3, h⟩ := ao_some h
      obtain ⟨hb4, h⟩ := ao_some h
      refine an_iaload j2 dX12_reset_5 hk3 hb4 ?_
      refine ao_if_eq 16 dX12_reset_6 (by decide) (fun c5 => ?_) (fun c5 => ?_)
      · replace h := ao_ifT h c5
        exact ih.2.1 r0 x1 M _ h
      · replace h := ao_ifF h c5
        refine ao_aload_n 0 dX12_reset_9 rfl rfl ?_
        refine an_getR r0 12 29 (q := (RX12, TX12, 83)) dX12_reset_10 rfl hk1 (Nat.le_of_ble_eq_true rfl) rfl lf_X12_187 hj2 ?_
        refine ao_iload_n 1 dX12_reset_13 rfl rfl ?_
        refine ao_iconst (v := 1) dX12_reset_14 (by decide) ?_
        refine an_iastore j2 dX12_reset_15 hk3 hb4 (fun M6 hM6 => ?_)
        replace h := ao_letD h hM6
        exact ih.2.1 r0 x1 M6 _ h
    · intro r0 x1 M y h
      replace h := ao_ifF h (by decide)
      replace h := ao_ifT h rfl
      refine ao_aload_n 0 dX12_reset_16 rfl rfl ?_
      obtain ⟨hk7, h⟩ := ao_some h
      obtain ⟨j8, hj8, h⟩ := ao_bind h
      refine an_getR r0 12 30 (q := (RX12, TX12, 83)) dX12_reset_17 rfl hk7 (Nat.le_of_ble_eq_true rfl) rfl lf_X12_190 hj8 ?_
      refine ao_iload_n 1 dX12_reset_20 rfl rfl ?_
      refine ao_iconst (v := 0) dX12_reset_21 (by decide) ?_
      obtain ⟨hk9, h⟩ := ao_some h
      obtain ⟨hb10, h⟩ := ao_some h
      refine an_iastore j8 dX12_reset_22 hk9 hb10 (fun M11 hM11 => ?_)
      replace h := ao_letD h hM11
      refine ao_aload_n 0 dX12_reset_23 rfl rfl ?_
      obtain ⟨j12, hj12, h⟩ := ao_bind h
      refine an_getR r0 12 33 (q := (RX12, TX12, 83)) dX12_reset_24 rfl hk7 (Nat.le_of_ble_eq_true rfl) rfl lf_X12_199 hj12 ?_
      refine ao_iload_n 1 dX12_reset_27 rfl rfl ?_
      refine ao_iconst (v := 0) dX12_reset_28 (by decide) ?_
      obtain ⟨hk13, h⟩ := ao_some h
      obtain ⟨hb14, h⟩ := ao_some h
      refine an_iastore j12 dX12_reset_29 hk13 hb14 (fun M15 hM15 => ?_)
      replace h := ao_letD h hM15
      refine ao_aload_n 0 dX12_reset_30 rfl rfl ?_
      obtain ⟨j16, hj16, h⟩ := ao_bind h
      refine an_getR r0 12 34 (q := (RX12, TX12, 83)) dX12_reset_31 rfl hk7 (Nat.le_of_ble_eq_true rfl) rfl lf_X12_202 hj16 ?_
      refine ao_iload_n 1 dX12_reset_34 rfl rfl ?_
      refine ao_iconst (v := 0) dX12_reset_35 (by decide) ?_
      obtain ⟨hk17, h⟩ := ao_some h
      obtain ⟨hb18, h⟩ := ao_some h
      refine an_iastore j16 dX12_reset_36 hk17 hb18 (fun M19 hM19 => ?_)
      replace h := ao_letD h hM19
      refine ao_aload_n 0 dX12_reset_37 rfl rfl ?_
      obtain ⟨j20, hj20, h⟩ := ao_bind h
      refine an_getR r0 12 35 (q := (RX12, TX12, 83)) dX12_reset_38 rfl hk7 (Nat.le_of_ble_eq_true rfl) rfl lf_X12_205 hj20 ?_
      refine ao_iload_n 1 dX12_reset_41 rfl rfl ?_
      refine ao_iconst (v := 0) dX12_reset_42 (by decide) ?_
      obtain ⟨hk21, h⟩ := ao_some h
      obtain ⟨hb22, h⟩ := ao_some h
      refine an_iastore j20 dX12_reset_43 hk21 hb22 (fun M23 hM23 => ?_)
      replace h := ao_letD h hM23
      refine ao_aload_n 0 dX12_reset_44 rfl rfl ?_
      obtain ⟨j24, hj24, h⟩ := ao_bind h
      refine an_getR r0 12 36 (q := (RX12, TX12, 83)) dX12_reset_45 rfl hk7 (Nat.le_of_ble_eq_true rfl) rfl lf_X12_208 hj24 ?_
      refine ao_iload_n 1 dX12_reset_48 rfl rfl ?_
      refine ao_iconst (v := 0) dX12_reset_49 (by decide) ?_
      obtain ⟨hk25, h⟩ := ao_some h
      obtain ⟨hb26, h⟩ := ao_some h
      refine an_iastore j24 dX12_reset_50 hk25 hb26 (fun M27 hM27 => ?_)
      replace h := ao_letD h hM27
      refine ao_aload_n 0 dX12_reset_51 rfl rfl ?_
      obtain ⟨j28, hj28, h⟩ := ao_bind h
      refine an_getR r0 12 37 (q := (RX12, TX12, 83)) dX12_reset_52 rfl hk7 (Nat.le_of_ble_eq_true rfl) rfl lf_X12_211 hj28 ?_
      refine ao_iload_n 1 dX12_reset_55 rfl rfl ?_
      refine ao_iconst (v := 0) dX12_reset_56 (by decide) ?_
      obtain ⟨hk29, h⟩ := ao_some h
      obtain ⟨hb30, h⟩ := ao_some h
      refine an_iastore j28 dX12_reset_57 hk29 hb30 (fun M31 hM31 => ?_)
      replace h := ao_letD h hM31
      refine ao_aload_n 0 dX12_reset_58 rfl rfl ?_
      obtain ⟨j32, hj32, h⟩ := ao_bind h
      refine an_getR r0 12 39 (q := (RX12, TX12, 83)) dX12_reset_59 rfl hk7 (Nat.le_of_ble_eq_true rfl) rfl lf_X12_217 hj32 ?_
      refine ao_iload_n 1 dX12_reset_62 rfl rfl ?_
      refine ao_iconst (v := 0) dX12_reset_63 (by decide) ?_
      obtain ⟨hk33, h⟩ := ao_some h
      obtain ⟨hb34, h⟩ := ao_some h
      refine an_iastore j32 dX12_reset_64 hk33 hb34 (fun M35 hM35 => ?_)
      replace h := ao_letD h hM35
      refine ao_aload_n 0 dX12_reset_65 rfl rfl ?_
      obtain ⟨j36, hj36, h⟩ := ao_bind h
      refine an_getR r0 12 40 (q := (RX12, TX12, 83)) dX12_reset_66 rfl hk7 (Nat.le_of_ble_eq_true rfl) rfl lf_X12_220 hj36 ?_
      refine ao_iload_n 1 dX12_reset_69 rfl rfl ?_
      refine ao_iconst (v := 0) dX12_reset_70 (by decide) ?_
      obtain ⟨hk37, h⟩ := ao_some h
      obtain ⟨hb38, h⟩ := ao_some h
      refine an_iastore j36 dX12_reset_71 hk37 hb38 (fun M39 hM39 => ?_)
      replace h := ao_letD h hM39
      refine ao_iconst (v := 0) dX12_reset_72 (by decide) ?_
      refine ao_istore_n 2 (lo' := [some (.ref (Γ.2.2.2 + r0)), some (.int x1), some (.int (0 : Int32))]) dX12_reset_73 rfl (Nat.le_of_ble_eq_true rfl) rfl ?_
      exact ih.2.2 r0 x1 (0 : Int32) M39 _ h
    · intro r0 x1 x2 M y h
      replace h := ao_ifF h (by decide)
      replace h := ao_ifF h (by decide)
      replace h := ao_ifT h rfl
      refine ao_iload_n 2 dX12_reset_74 rfl rfl ?_
      refine ao_bipush (v := 26) dX12_reset_75 (by decide) ?_
      refine ao_icmp_ge 98 dX12_reset_77 (by decide) (fun c40 => ?_) (fun c40 => ?_)
      · replace h := ao_ifT h c40
        refine ao_aload_n 0 dX12_reset_98 rfl rfl ?_
        refine ao_iload_n 1 dX12_reset_99 rfl rfl ?_
        refine ao_iconst (v := 0) dX12_reset_100 (by decide) ?_
        obtain ⟨hk41, h⟩ := ao_some h
        obtain ⟨p42, hp42, h⟩ := ao_bind h
        refine an_callVv r0 12 (q := (RX12, TX12, 83)) [.int x1, .int (0 : Int32)] (aX12_clearLevel (d - 1) (by omega) _ r0 x1 (0 : Int32) M ρ hp42) dX12_reset_101 lc_X12_353 li_X12_clearLevel ls_X12_clearLevel rfl hk41 rfl rfl (Nat.le_of_ble_eq_true rfl) (ao_hR (by omega) (by decide)) ?_
        cases h
        exact ao_return dX12_reset_104 rfl ⟨rfl, rfl⟩
      · replace h := ao_ifF h c40
        refine ao_aload_n 0 dX12_reset_80 rfl rfl ?_
        obtain ⟨hk43, h⟩ := ao_some h
        obtain ⟨j44, hj44, h⟩ := ao_bind h
        refine an_getR r0 12 31 (q := (RX12, TX12, 83)) dX12_reset_81 rfl hk43 (Nat.le_of_ble_eq_true rfl) rfl lf_X12_193 hj44 ?_
        refine ao_iload_n 1 dX12_reset_84 rfl rfl ?_
        refine ao_bipush (v := 26) dX12_reset_85 (by decide) ?_
        refine ao_imul dX12_reset_87 ?_
        refine ao_iload_n 2 dX12_reset_88 rfl rfl ?_
        refine ao_iadd dX12_reset_89 ?_
        refine ao_iconst (v := 0) dX12_reset_90 (by decide) ?_
        obtain ⟨hk45, h⟩ := ao_some h
        obtain ⟨hb46, h⟩ := ao_some h
        refine an_iastore j44 dX12_reset_91 hk45 hb46 (fun M47 hM47 => ?_)
        replace h := ao_letD h hM47
        obtain ⟨v48, hv48⟩ : ∃ z : Int32, z = x2 + (1 : Int32) := ⟨_, rfl⟩
        replace h := ao_letD h hv48
        refine ao_iinc 2 (v := v48) (lo' := [some (.ref (Γ.2.2.2 + r0)), some (.int x1), some (.int v48)]) dX12_reset_92 rfl (by rw [hv48]; rfl) (Nat.le_of_ble_eq_true rfl) rfl ?_
        refine ao_goto 74 dX12_reset_95 (by decide) ?_
        exact ih.2.2 r0 x1 v48 M47 _ h
set_option maxRecDepth 100000 in
set_option maxHeartbeats 4000000 in
theorem aX12_reset {Γ : ao_C} (d : Nat) (hd : 2 ≤ d) (n : Nat) (r0 : Nat) (x1 : Int32) (M : ao_M) (ρ : ao_H) {y : ao_M} (h : gX12_reset n r0 x1 M ρ = some y) : ao_A Γ uX12_reset d 0 0 [.ref (Γ.2.2.2 + r0), .int x1] (M, ρ) (ao_PV ρ y) := by
  refine ao_of (by decide) (ao_cat1 (Nat.le_of_ble_eq_true rfl)) (Nat.le_of_ble_eq_true rfl) ?_
  show ao_W Γ uX12_reset (ao_rm d 0 0) (ao_Q Γ (ao_PV ρ y) 0 0) 0 0 0 [some (.ref (Γ.2.2.2 + r0)), some (.int x1), none] [] (M, ρ)
  exact (wX12_reset d hd n).1 r0 x1 M y h

abbrev uX12_feed : ao_Mi := (yX12_feed, cX12_feed, 6, (some .int), [])
def fX12_feed : Nat → Nat → Nat → Int32 → Int32 → Int32 → Int32 → Int32 → Int32 → Nat →  ao_M → ao_H → Option (Int32 × ao_M)
  | 0, _, _, _, _, _, _, _, _, _, _, _ => none
  | n + 1, pc, r0, x1, x2, x3, x4, x5, s0, q1, M, ρ =>
    if pc = 0 then
      if ρ.2.1 r0 = 22 then
      if ((M r0 6) + (20 : Int32)) ≤ (1000 : Int32) then
        fX12_feed n 19 r0 x1 x2 x3 x4 x5 (0 : Int32) r0 M ρ
      else
        fX12_feed n 19 r0 x1 x2 x3 x4 x5 (1 : Int32) r0 M ρ
      else none
    else if pc = 19 then
      if ρ.2.1 q1 = 22 then
      (gX12_fails q1 s0 M ρ).bind fun p4 =>
      if p4.1 = 0 then
        if ρ.2.1 r0 = 22 then
        (gX12_four n r0 x1 p4.2 ρ).bind fun p7 =>
        (gX12_four n r0 x2 p7 ρ).bind fun p8 =>
        (gX12_four n r0 x3 p8 ρ).bind fun p9 =>
        (gX12_four n r0 x4 p9 ρ).bind fun p10 =>
        (gX12_four n r0 x5 p10 ρ).bind fun p11 =>
        some ((p11 r0 6), p11)
        else none
      else
        some ((0 : Int32), p4.2)
      else none
    else none
def gX12_feed (n : Nat) (r0 : Nat) (x1 : Int32) (x2 : Int32) (x3 : Int32) (x4 : Int32) (x5 : Int32) (M : ao_M) (ρ : ao_H) : Option (Int32 × ao_M) := fX12_feed n 0 r0 x1 x2 x3 x4 x5 0 0 M ρ
set_option maxRecDepth 100000 in
set_option maxHeartbeats 4000000 in
theorem wX12_feed {Γ : ao_C} {ρ : ao_H} (d : Nat) (hd : 1 ≤ d) : ∀ n : Nat, (∀ (r0 : Nat) (x1 : Int32) (x2 : Int32) (x3 : Int32) (x4 : Int32) (x5 : Int32) (M : ao_M) (y : Int32 × ao_M), fX12_feed n 0 r0 x1 x2 x3 x4 x5 0 0 M ρ = some y → ao_W Γ uX12_feed (ao_rm d 0 0) (ao_Q Γ (ao_PI ρ y) 0 0) 0 0 0 [some (.ref (Γ.2.2.2 + r0)), some (.int x1), some (.int x2), some (.int x3), some (.int x4), some (.int x5)] [] (M, ρ)) ∧ (∀ (r0 : Nat) (x1 : Int32) (x2 : Int32) (x3 : Int32) (x4 : Int32) (x5 : Int32) (s0 : Int32) (q1 : Nat) (M : ao_M) (y : Int32 × ao_M), fX12_feed n 19 r0 x1 x2 x3 x4 x5 s0 q1 M ρ = some y → ao_W Γ uX12_feed (ao_rm d 0 0) (ao_Q Γ (ao_PI ρ y) 0 0) 0 0 19 [some (.ref (Γ.2.2.2 + r0)), some (.int x1), some (.int x2), some (.int x3), some (.int x4), some (.int x5)] [.int s0, .ref (Γ.2.2.2 + q1)] (M, ρ)) := by
  intro n
  induction n with
  | zero => exact ⟨fun _ _ _ _ _ _ _ _ h => ao_no h, fun _ _ _ _ _ _ _ _ _ _ h => ao_no h⟩
  | succ n ih =>
    refine ⟨?_, ?_⟩
    · intro r0 x1 x2 x3 x4 x5 M y h
      replace h := ao_ifT h rfl
      refine ao_aload_n 0 dX12_feed_0 rfl rfl ?_
      refine ao_aload_n 0 dX12_feed_1 rfl rfl ?_
      obtain ⟨hk1, h⟩ := ao_some h
      refine an_getI r0 12 6 (q := (RX12, TX12, 83)) dX12_feed_2 rfl hk1 (Nat.le_of_ble_eq_true rfl) rfl lf_X12_494 ?_
      refine ao_bipush (v := 20) dX12_feed_5 (by decide) ?_
      refine ao_iadd dX12_feed_7 ?_
      refine ao_sipush (v := 1000) dX12_feed_8 (by decide) ?_
      refine ao_icmp_le 18 dX12_feed_11 (by decide) (fun c2 => ?_) (fun c2 => ?_)
      · replace h := ao_ifT h c2
        refine ao_iconst (v := 0) dX12_feed_18 (by decide) ?_
        exact ih.2 r0 x1 x2 x3 x4 x5 (0 : Int32) r0 M _ h
      · replace h := ao_ifF h c2
        refine ao_iconst (v := 1) dX12_feed_14 (by decide) ?_
        refine ao_goto 19 dX12_feed_15 (by decide) ?_
        exact ih.2 r0 x1 x2 x3 x4 x5 (1 : Int32) r0 M _ h
    · intro r0 x1 x2 x3 x4 x5 s0 q1 M y h
      replace h := ao_ifF h (by decide)
      replace h := ao_ifT h rfl
      obtain ⟨hk3, h⟩ := ao_some h
      obtain ⟨p4, hp4, h⟩ := ao_bind h
      refine an_callVi q1 12 (q := (RX12, TX12, 83)) [.int s0] (aX12_fails (d - 1) (by omega) q1 s0 M ρ hp4) dX12_feed_19 lc_X12_497 li_X12_fails ls_X12_fails rfl hk3 rfl rfl (Nat.le_of_ble_eq_true rfl) (ao_hR (by omega) (by decide)) ?_
      refine ao_if_eq 27 dX12_feed_22 (by decide) (fun c5 => ?_) (fun c5 => ?_)
      · replace h := ao_ifT h c5
        refine ao_aload_n 0 dX12_feed_27 rfl rfl ?_
        refine ao_iload_n 1 dX12_feed_28 rfl rfl ?_
        obtain ⟨hk6, h⟩ := ao_some h
        obtain ⟨p7, hp7, h⟩ := ao_bind h
        refine an_callVv r0 12 (q := (RX12, TX12, 83)) [.int x1] (aX12_four (d - 1) (by omega) _ r0 x1 p4.2 ρ hp7) dX12_feed_29 lc_X12_500 li_X12_four ls_X12_four rfl hk6 rfl rfl (Nat.le_of_ble_eq_true rfl) (ao_hR (by omega) (by decide)) ?_
        refine ao_aload_n 0 dX12_feed_32 rfl rfl ?_
        refine ao_iload_n 2 dX12_feed_33 rfl rfl ?_
        obtain ⟨p8, hp8, h⟩ := ao_bind h
        refine an_callVv r0 12 (q := (RX12, TX12, 83)) [.int x2] (aX12_four (d - 1) (by omega) _ r0 x2 p7 ρ hp8) dX12_feed_34 lc_X12_500 li_X12_four ls_X12_four rfl hk6 rfl rfl (Nat.le_of_ble_eq_true rfl) (ao_hR (by omega) (by decide)) ?_
        refine ao_aload_n 0 dX12_feed_37 rfl rfl ?_
        refine ao_iload_n 3 dX12_feed_38 rfl rfl ?_
        obtain ⟨p9, hp9, h⟩ := ao_bind h
        refine an_callVv r0 12 (q := (RX12, TX12, 83)) [.int x3] (aX12_four (d - 1) (by omega) _ r0 x3 p8 ρ hp9) dX12_feed_39 lc_X12_500 li_X12_four ls_X12_four rfl hk6 rfl rfl (Nat.le_of_ble_eq_true rfl) (ao_hR (by omega) (by decide)) ?_
        refine ao_aload_n 0 dX12_feed_42 rfl rfl ?_
        refine ao_iload 4 dX12_feed_43 rfl ?_
        obtain ⟨p10, hp10, h⟩ := ao_bind h
        refine an_callVv r0 12 (q := (RX12, TX12, 83)) [.int x4] (aX12_four (d - 1) (by omega) _ r0 x4 p9 ρ hp10) dX12_feed_45 lc_X12_500 li_X12_four ls_X12_four rfl hk6 rfl rfl (Nat.le_of_ble_eq_true rfl) (ao_hR (by omega) (by decide)) ?_
        refine ao_aload_n 0 dX12_feed_48 rfl rfl ?_
        refine ao_iload 5 dX12_feed_49 rfl ?_
        obtain ⟨p11, hp11, h⟩ := ao_bind h
        refine an_callVv r0 12 (q := (RX12, TX12, 83)) [.int x5] (aX12_four (d - 1) (by omega) _ r0 x5 p10 ρ hp11) dX12_feed_51 lc_X12_500 li_X12_four ls_X12_four rfl hk6 rfl rfl (Nat.le_of_ble_eq_true rfl) (ao_hR (by omega) (by decide)) ?_
        refine ao_aload_n 0 dX12_feed_54 rfl rfl ?_
        refine an_getI r0 12 6 (q := (RX12, TX12, 83)) dX12_feed_55 rfl hk6 (Nat.le_of_ble_eq_true rfl) rfl lf_X12_494 ?_
        cases h
        exact ao_ireturn dX12_feed_58 rfl rfl ⟨rfl, rfl⟩
      · replace h := ao_ifF h c5
        refine ao_iconst (v := 0) dX12_feed_25 (by decide) ?_
        cases h
        exact ao_ireturn dX12_feed_26 rfl rfl ⟨rfl, rfl⟩
set_option maxRecDepth 100000 in
set_option maxHeartbeats 4000000 in
theorem aX12_feed {Γ : ao_C} (d : Nat) (hd : 1 ≤ d) (n : Nat) (r0 : Nat) (x1 : Int32) (x2 : Int32) (x3 : Int32) (x4 : Int32) (x5 : Int32) (M : ao_M) (ρ : ao_H) {y : Int32 × ao_M} (h : gX12_feed n r0 x1 x2 x3 x4 x5 M ρ = some y) : ao_A Γ uX12_feed d 0 0 [.ref (Γ.2.2.2 + r0), .int x1, .int x2, .int x3, .int x4, .int x5] (M, ρ) (ao_PI ρ y) := by
  refine ao_of (by decide) (ao_cat1 (Nat.le_of_ble_eq_true rfl)) (Nat.le_of_ble_eq_true rfl) ?_
  show ao_W Γ uX12_feed (ao_rm d 0 0) (ao_Q Γ (ao_PI ρ y) 0 0) 0 0 0 [some (.ref (Γ.2.2.2 + r0)), some (.int x1), some (.int x2), some (.int x3), some (.int x4), some (.int x5)] [] (M, ρ)
  exact (wX12_feed d hd n).1 r0 x1 x2 x3 x4 x5 M y h

abbrev uX12_begin : ao_Mi := (yX12_begin, cX12_begin, 3, none, [])
def fX12_begin : Nat → Nat → Nat → Int32 → Int32 →  ao_M → ao_H → Option (ao_M)
  | 0, _, _, _, _, _, _ => none
  | n + 1, pc, r0, x1, x2, M, ρ =>
    if pc = 0 then
      if ρ.2.1 r0 = 22 then
      ao_let (ao_u M r0 27 x1) fun M2 =>
      ao_let (ao_u M2 r0 26 (0 : Int32)) fun M3 =>
      ao_let (ao_u M3 r0 25 (0 : Int32)) fun M4 =>
      ao_let (ao_u M4 r0 68 (0 : Int32)) fun M5 =>
      ao_let (ao_u M5 r0 76 (0 : Int32)) fun M6 =>
      ao_let (ao_u M6 r0 65 (0 : Int32)) fun M7 =>
      ao_let (ao_u M7 r0 63 (0 : Int32)) fun M8 =>
      ao_let (ao_u M8 r0 82 (0 : Int32)) fun M9 =>
      ao_let (ao_u M9 r0 3 (-1 : Int32)) fun M10 =>
      fX12_begin n 47 r0 x1 (0 : Int32) M10 ρ
      else none
    else if pc = 47 then
      if (26 : Int32) ≤ x2 then
        fX12_begin n 96 r0 x1 (0 : Int32) M ρ
      else
        if ρ.2.1 r0 = 22 then
        (ρ.1 r0 17).bind fun j13 =>
        if ρ.2.1 j13 = 0 then
        if ¬ (x2 < 0 ∨ ρ.2.2.1 j13 ≤ x2.toNatClampNeg) then
        ao_let (ao_u M j13 x2.toNatClampNeg (0 : Int32)) fun M16 =>
        (ρ.1 r0 18).bind fun j17 =>
        if ρ.2.1 j17 = 0 then
        if ¬ (x2 < 0 ∨ ρ.2.2.1 j17 ≤ x2.toNatClampNeg) then
        ao_let (ao_u M16 j17 x2.toNatClampNeg (0 : Int32)) fun M20 =>
        (ρ.1 r0 19).bind fun j21 =>
        if ρ.2.1 j21 = 0 then
        if ¬ (x2 < 0 ∨ ρ.2.2.1 j21 ≤ x2.toNatClampNeg) then
        ao_let (ao_u M20 j21 x2.toNatClampNeg (-1 : Int32)) fun M24 =>
        (ρ.1 r0 20).bind fun j25 =>
        if ρ.2.1 j25 = 0 then
        if ¬ (x2 < 0 ∨ ρ.2.2.1 j25 ≤ x2.toNatClampNeg) then
        ao_let (ao_u M24 j25 x2.toNatClampNeg (0 : Int32)) fun M28 =>
        (ρ.1 r0 21).bind fun j29 =>
        if ρ.2.1 j29 = 0 then
        if ¬ (x2 < 0 ∨ ρ.2.2.1 j29 ≤ x2.toNatClampNeg) then
        ao_let (ao_u M28 j29 x2.toNatClampNeg (-1 : Int32)) fun M32 =>
        ao_let (x2 + (1 : Int32)) fun v33 =>
        fX12_begin n 47 r0 x1 v33 M32 ρ
        else none
        else none
        else none
        else none
        else none
        else none
        else none
        else none
        else none
        else none
        else none
    else if pc = 96 then
      if (6 : Int32) ≤ x2 then
        some M
      else
        if ρ.2.1 r0 = 22 then
        (gX12_reset n r0 x2 M ρ).bind fun p36 =>
        ao_let (x2 + (1 : Int32)) fun v37 =>
        fX12_begin n 96 r0 x1 v37 p36 ρ
        else none
    else none
def gX12_begin (n : Nat) (r0 : Nat) (x1 : Int32) (M : ao_M) (ρ : ao_H) : Option (ao_M) := fX12_begin n 0 r0 x1 0 M ρ
set_option maxRecDepth 100000 in
set_option maxHeartbeats 4000000 in
theorem wX12_begin {Γ : ao_C} {ρ : ao_H} (d : Nat) (hd : 3 ≤ d) : ∀ n : Nat, (∀ (r0 : Nat) (x1 : Int32) (M : ao_M) (y : ao_M), fX12_begin n 0 r0 x1 0 M ρ = some y → ao_W Γ uX12_begin (ao_rm d 0 0) (ao_Q Γ (ao_PV ρ y) 0 0) 0 0 0 [some (.ref (Γ.2.2.2 + r0)), some (.int x1), none] [] (M, ρ)) ∧ (∀ (r0 : Nat) (x1 : Int32) (x2 : Int32) (M : ao_M) (y : ao_M), fX12_begin n 47 r0 x1 x2 M ρ = some y → ao_W Γ uX12_begin (ao_rm d 0 0) (ao_Q Γ (ao_PV ρ y) 0 0) 0 0 47 [some (.ref (Γ.2.2.2 + r0)), some (.int x1), some (.int x2)] [] (M, ρ)) ∧ (∀ (r0 : Nat) (x1 : Int32) (x2 : Int32) (M : ao_M) (y : ao_M), fX12_begin n 96 r0 x1 x2 M ρ = some y → ao_W Γ uX12_begin (ao_rm d 0 0) (ao_Q Γ (ao_PV ρ y) 0 0) 0 0 96 [some (.ref (Γ.2.2.2 + r0)), some (.int x1), some (.int x2)] [] (M, ρ)) := by
  intro n
  induction n with
  | zero => exact ⟨fun _ _ _ _ h => ao_no h, fun _ _ _ _ _ h => ao_no h, fun _ _ _ _ _ h => ao_no h⟩
  | succ n ih =>
    refine ⟨?_, ?_, ?_⟩
    · intro r0 x1 M y h
      replace h := ao_ifT h rfl
      refine ao_aload_n 0 dX12_begin_0 rfl rfl ?_
      refine ao_iload_n 1 dX12_begin_1 rfl rfl ?_
      obtain ⟨hk1, h⟩ := ao_some h
      refine an_putI r0 12 27 (q := (RX12, TX12, 83)) dX12_begin_2 rfl hk1 (Nat.le_of_ble_eq_true rfl) lf_X12_332 rfl rfl rfl rfl (fun M2 hM2 => ?_)
      replace h := ao_letD h hM2
      refine ao_aload_n 0 dX12_begin_5 rfl rfl ?_
      refine ao_iconst (v := 0) dX12_begin_6 (by decide) ?_
      refine an_putI r0 12 26 (q := (RX12, TX12, 83)) dX12_begin_7 rfl hk1 (Nat.le_of_ble_eq_true rfl) lf_X12_148 rfl rfl rfl rfl (fun M3 hM3 => ?_)
      replace h := ao_letD h hM3
      refine ao_aload_n 0 dX12_begin_10 rfl rfl ?_
      refine ao_iconst (v := 0) dX12_begin_11 (by decide) ?_
      refine an_putI r0 12 25 (q := (RX12, TX12, 83)) dX12_begin_12 rfl hk1 (Nat.le_of_ble_eq_true rfl) lf_X12_132 rfl rfl rfl rfl (fun M4 hM4 => ?_)
      replace h := ao_letD h hM4
      refine ao_aload_n 0 dX12_begin_15 rfl rfl ?_
      refine ao_iconst (v := 0) dX12_begin_16 (by decide) ?_
      refine an_putI r0 12 68 (q := (RX12, TX12, 83)) dX12_begin_17 rfl hk1 (Nat.le_of_ble_eq_true rfl) lf_X12_335 rfl rfl rfl rfl (fun M5 hM5 => ?_)
      replace h := ao_letD h hM5
      refine ao_aload_n 0 dX12_begin_20 rfl rfl ?_
      refine ao_iconst (v := 0) dX12_begin_21 (by decide) ?_
      refine an_putI r0 12 76 (q := (RX12, TX12, 83)) dX12_begin_22 rfl hk1 (Nat.le_of_ble_eq_true rfl) lf_X12_338 rfl rfl rfl rfl (fun M6 hM6 => ?_)
      replace h := ao_letD h hM6
      refine ao_aload_n 0 dX12_begin_25 rfl rfl ?_
      refine ao_iconst (v := 0) dX12_begin_26 (by decide) ?_
      refine an_putI r0 12 65 (q := (RX12, TX12, 83)) dX12_begin_27 rfl hk1 (Nat.le_of_ble_eq_true rfl) lf_X12_341 rfl rfl rfl rfl (fun M7 hM7 => ?_)
      replace h := ao_letD h hM7
      refine ao_aload_n 0 dX12_begin_30 rfl rfl ?_
      refine ao_iconst (v := 0) dX12_begin_31 (by decide) ?_
      refine an_putI r0 12 63 (q := (RX12, TX12, 83)) dX12_begin_32 rfl hk1 (Nat.le_of_ble_eq_true rfl) lf_X12_344 rfl rfl rfl rfl (fun M8 hM8 => ?_)
      replace h := ao_letD h hM8
      refine ao_aload_n 0 dX12_begin_35 rfl rfl ?_
      refine ao_iconst (v := 0) dX12_begin_36 (by decide) ?_
      refine an_putI r0 12 82 (q := (RX12, TX12, 83)) dX12_begin_37 rfl hk1 (Nat.le_of_ble_eq_true rfl) lf_X12_347 rfl rfl rfl rfl (fun M9 hM9 => ?_)
      replace h := ao_letD h hM9
      refine ao_aload_n 0 dX12_begin_40 rfl rfl ?_
      refine ao_iconst (v := (-1)) dX12_begin_41 (by decide) ?_
      refine an_putI r0 12 3 (q := (RX12, TX12, 83)) dX12_begin_42 rfl hk1 (Nat.le_of_ble_eq_true rfl) lf_X12_171 rfl rfl rfl rfl (fun M10 hM10 => ?_)
      replace h := ao_letD h hM10
      refine ao_iconst (v := 0) dX12_begin_45 (by decide) ?_
      refine ao_istore_n 2 (lo' := [some (.ref (Γ.2.2.2 + r0)), some (.int x1), some (.int (0 : Int32))]) dX12_begin_46 rfl (Nat.le_of_ble_eq_true rfl) rfl ?_
      exact ih.2.1 r0 x1 (0 : Int32) M10 _ h
    · intro r0 x1 x2 M y h
      replace h := ao_ifF h (by decide)
      replace h := ao_ifT h rfl
      refine ao_iload_n 2 dX12_begin_47 rfl rfl ?_
      refine ao_bipush (v := 26) dX12_begin_48 (by decide) ?_
      refine ao_icmp_ge 94 dX12_begin_50 (by decide) (fun c11 => ?_) (fun c11 => ?_)
      · replace h := ao_ifT h c11
        refine ao_iconst (v := 0) dX12_begin_94 (by decide) ?_
        refine ao_istore_n 2 (lo' := [some (.ref (Γ.2.2.2 + r0)), some (.int x1), some (.int (0 : Int32))]) dX12_begin_95 rfl (Nat.le_of_ble_eq_true rfl) rfl ?_
        exact ih.2.2 r0 x1 (0 : Int32) M _ h
      · replace h := ao_ifF h c11
        refine ao_aload_n 0 dX12_begin_53 rfl rfl ?_
        obtain ⟨hk12, h⟩ := ao_some h
        obtain ⟨j13, hj13, h⟩ := ao_bind h
        refine an_getR r0 12 17 (q := (RX12, TX12, 83)) dX12_begin_54 rfl hk12 (Nat.le_of_ble_eq_true rfl) rfl lf_X12_151 hj13 ?_
        refine ao_iload_n 2 dX12_begin_57 rfl rfl ?_
        refine ao_iconst (v := 0) dX12_begin_58 (by decide) ?_
        obtain ⟨hk14, h⟩ := ao_some h
        obtain ⟨hb15, h⟩ := ao_some h
        refine an_iastore j13 dX12_begin_59 hk14 hb15 (fun M16 hM16 => ?_)
        replace h := ao_letD h hM16
        refine ao_aload_n 0 dX12_begin_60 rfl rfl ?_
        obtain ⟨j17, hj17, h⟩ := ao_bind h
        refine an_getR r0 12 18 (q := (RX12, TX12, 83)) dX12_begin_61 rfl hk12 (Nat.le_of_ble_eq_true rfl) rfl lf_X12_157 hj17 ?_
        refine ao_iload_n 2 dX12_begin_64 rfl rfl ?_
        refine ao_iconst (v := 0) dX12_begin_65 (by decide) ?_
        obtain ⟨hk18, h⟩ := ao_some h
        obtain ⟨hb19, h⟩ := ao_some h
        refine an_iastore j17 dX12_begin_66 hk18 hb19 (fun M20 hM20 => ?_)
        replace h := ao_letD h hM20
        refine ao_aload_n 0 dX12_begin_67 rfl rfl ?_
        obtain ⟨j21, hj21, h⟩ := ao_bind h
        refine an_getR r0 12 19 (q := (RX12, TX12, 83)) dX12_begin_68 rfl hk12 (Nat.le_of_ble_eq_true rfl) rfl lf_X12_177 hj21 ?_
        refine ao_iload_n 2 dX12_begin_71 rfl rfl ?_
        refine ao_iconst (v := (-1)) dX12_begin_72 (by decide) ?_
        obtain ⟨hk22, h⟩ := ao_some h
        obtain ⟨hb23, h⟩ := ao_some h
        refine an_iastore j21 dX12_begin_73 hk22 hb23 (fun M24 hM24 => ?_)
        replace h := ao_letD h hM24
        refine ao_aload_n 0 dX12_begin_74 rfl rfl ?_
        obtain ⟨j25, hj25, h⟩ := ao_bind h
        refine an_getR r0 12 20 (q := (RX12, TX12, 83)) dX12_begin_75 rfl hk12 (Nat.le_of_ble_eq_true rfl) rfl lf_X12_180 hj25 ?_
        refine ao_iload_n 2 dX12_begin_78 rfl rfl ?_
        refine ao_iconst (v := 0) dX12_begin_79 (by decide) ?_
        obtain ⟨hk26, h⟩ := ao_some h
        obtain ⟨hb27, h⟩ := ao_some h
        refine an_iastore j25 dX12_begin_80 hk26 hb27 (fun M28 hM28 => ?_)
        replace h := ao_letD h hM28
        refine ao_aload_n 0 dX12_begin_81 rfl rfl ?_
        obtain ⟨j29, hj29, h⟩ := ao_bind h
        refine an_getR r0 12 21 (q := (RX12, TX12, 83)) dX12_begin_82 rfl hk12 (Nat.le_of_ble_eq_true rfl) rfl lf_X12_154 hj29 ?_
        refine ao_iload_n 2 dX12_begin_85 rfl rfl ?_
        refine ao_iconst (v := (-1)) dX12_begin_86 (by decide) ?_
        obtain ⟨hk30, h⟩ := ao_some h
        obtain ⟨hb31, h⟩ := ao_some h
        refine an_iastore j29 dX12_begin_87 hk30 hb31 (fun M32 hM32 => ?_)
        replace h := ao_letD h hM32
        obtain ⟨v33, hv33⟩ : ∃ z : Int32, z = x2 + (1 : Int32) := ⟨_, rfl⟩
        replace h := ao_letD h hv33
        refine ao_iinc 2 (v := v33) (lo' := [some (.ref (Γ.2.2.2 + r0)), some (.int x1), some (.int v33)]) dX12_begin_88 rfl (by rw [hv33]; rfl) (Nat.le_of_ble_eq_true rfl) rfl ?_
        refine ao_goto 47 dX12_begin_91 (by decide) ?_
        exact ih.2.1 r0 x1 v33 M32 _ h
    · intro r0 x1 x2 M y h
      replace h := ao_ifF h (by decide)
      replace h := ao_ifF h (by decide)
      replace h := ao_ifT h rfl
      refine ao_iload_n 2 dX12_begin_96 rfl rfl ?_
      refine ao_bipush (v := 6) dX12_begin_97 (by decide) ?_
      refine ao_icmp_ge 113 dX12_begin_99 (by decide) (fun c34 => ?_) (fun c34 => ?_)
      · replace h := ao_ifT h c34
        cases h
        exact ao_return dX12_begin_113 rfl ⟨rfl, rfl⟩
      · replace h := ao_ifF h c34
        refine ao_aload_n 0 dX12_begin_102 rfl rfl ?_
        refine ao_iload_n 2 dX12_begin_103 rfl rfl ?_
        obtain ⟨hk35, h⟩ := ao_some h
        obtain ⟨p36, hp36, h⟩ := ao_bind h
        refine an_callVv r0 12 (q := (RX12, TX12, 83)) [.int x2] (aX12_reset (d - 1) (by omega) _ r0 x2 M ρ hp36) dX12_begin_104 lc_X12_350 li_X12_reset ls_X12_reset rfl hk35 rfl rfl (Nat.le_of_ble_eq_true rfl) (ao_hR (by omega) (by decide)) ?_
        obtain ⟨v37, hv37⟩ : ∃ z : Int32, z = x2 + (1 : Int32) := ⟨_, rfl⟩
        replace h := ao_letD h hv37
        refine ao_iinc 2 (v := v37) (lo' := [some (.ref (Γ.2.2.2 + r0)), some (.int x1), some (.int v37)]) dX12_begin_107 rfl (by rw [hv37]; rfl) (Nat.le_of_ble_eq_true rfl) rfl ?_
        refine ao_goto 96 dX12_begin_110 (by decide) ?_
        exact ih.2.2 r0 x1 v37 p36 _ h
set_option maxRecDepth 100000 in
set_option maxHeartbeats 4000000 in
theorem aX12_begin {Γ : ao_C} (d : Nat) (hd : 3 ≤ d) (n : Nat) (r0 : Nat) (x1 : Int32) (M : ao_M) (ρ : ao_H) {y : ao_M} (h : gX12_begin n r0 x1 M ρ = some y) : ao_A Γ uX12_begin d 0 0 [.ref (Γ.2.2.2 + r0), .int x1] (M, ρ) (ao_PV ρ y) := by
  refine ao_of (by decide) (ao_cat1 (Nat.le_of_ble_eq_true rfl)) (Nat.le_of_ble_eq_true rfl) ?_
  show ao_W Γ uX12_begin (ao_rm d 0 0) (ao_Q Γ (ao_PV ρ y) 0 0) 0 0 0 [some (.ref (Γ.2.2.2 + r0)), some (.int x1), none] [] (M, ρ)
  exact (wX12_begin d hd n).1 r0 x1 M y h

abbrev uX12_start : ao_Mi := (yX12_start, cX12_start, 2, none, [])
def fX12_start : Nat → Nat → Nat → Int32 → Nat → Int32 → Nat →  ao_M → ao_H → Option (ao_M)
  | 0, _, _, _, _, _, _, _, _ => none
  | n + 1, pc, r0, x1, q0, s0, q1, M, ρ =>
    if pc = 0 then
      if x1 < 0 then
        fX12_start n 10 r0 x1 r0 0 0 M ρ
      else
        if x1 ≤ (4 : Int32) then
          fX12_start n 15 r0 x1 0 (0 : Int32) r0 M ρ
        else
          fX12_start n 10 r0 x1 r0 0 0 M ρ
    else if pc = 10 then
      fX12_start n 15 r0 x1 0 (1 : Int32) q0 M ρ
    else if pc = 15 then
      if ρ.2.1 q1 = 22 then
      (gX12_fails q1 s0 M ρ).bind fun p4 =>
      if p4.1 = 0 then
        if ρ.2.1 r0 = 22 then
        (gX12_begin n r0 x1 p4.2 ρ).bind fun p7 =>
        some p7
        else none
      else
        some p4.2
      else none
    else none
def gX12_start (n : Nat) (r0 : Nat) (x1 : Int32) (M : ao_M) (ρ : ao_H) : Option (ao_M) := fX12_start n 0 r0 x1 0 0 0 M ρ
set_option maxRecDepth 100000 in
set_option maxHeartbeats 4000000 in
theorem wX12_start {Γ : ao_C} {ρ : ao_H} (d : Nat) (hd : 4 ≤ d) : ∀ n : Nat, (∀ (r0 : Nat) (x1 : Int32) (M : ao_M) (y : ao_M), fX12_start n 0 r0 x1 0 0 0 M ρ = some y → ao_W Γ uX12_start (ao_rm d 0 0) (ao_Q Γ (ao_PV ρ y) 0 0) 0 0 0 [some (.ref (Γ.2.2.2 + r0)), some (.int x1)] [] (M, ρ)) ∧ (∀ (r0 : Nat) (x1 : Int32) (q0 : Nat) (M : ao_M) (y : ao_M), fX12_start n 10 r0 x1 q0 0 0 M ρ = some y → ao_W Γ uX12_start (ao_rm d 0 0) (ao_Q Γ (ao_PV ρ y) 0 0) 0 0 10 [some (.ref (Γ.2.2.2 + r0)), some (.int x1)] [.ref (Γ.2.2.2 + q0)] (M, ρ)) ∧ (∀ (r0 : Nat) (x1 : Int32) (s0 : Int32) (q1 : Nat) (M : ao_M) (y : ao_M), fX12_start n 15 r0 x1 0 s0 q1 M ρ = some y → ao_W Γ uX12_start (ao_rm d 0 0) (ao_Q Γ (ao_PV ρ y) 0 0) 0 0 15 [some (.ref (Γ.2.2.2 + r0)), some (.int x1)] [.int s0, .ref (Γ.2.2.2 + q1)] (M, ρ)) := by
  intro n
  induction n with
  | zero => exact ⟨fun _ _ _ _ h => ao_no h, fun _ _ _ _ _ h => ao_no h, fun _ _ _ _ _ _ h => ao_no h⟩
  | succ n ih =>
    refine ⟨?_, ?_, ?_⟩
    · intro r0 x1 M y h
      replace h := ao_ifT h rfl
      refine ao_aload_n 0 dX12_start_0 rfl rfl ?_
      refine ao_iload_n 1 dX12_start_1 rfl rfl ?_
      refine ao_if_lt 10 dX12_start_2 (by decide) (fun c1 => ?_) (fun c1 => ?_)
      · replace h := ao_ifT h c1
        exact ih.2.1 r0 x1 r0 M _ h
      · replace h := ao_ifF h c1
        refine ao_iload_n 1 dX12_start_5 rfl rfl ?_
        refine ao_iconst (v := 4) dX12_start_6 (by decide) ?_
        refine ao_icmp_le 14 dX12_start_7 (by decide) (fun c2 => ?_) (fun c2 => ?_)
        · replace h := ao_ifT h c2
          refine ao_iconst (v := 0) dX12_start_14 (by decide) ?_
          exact ih.2.2 r0 x1 (0 : Int32) r0 M _ h
        · replace h := ao_ifF h c2
          exact ih.2.1 r0 x1 r0 M _ h
    · intro r0 x1 q0 M y h
      replace h := ao_ifF h (by decide)
      replace h := ao_ifT h rfl
      refine ao_iconst (v := 1) dX12_start_10 (by decide) ?_
      refine ao_goto 15 dX12_start_11 (by decide) ?_
      exact ih.2.2 r0 x1 (1 : Int32) q0 M _ h
    · intro r0 x1 s0 q1 M y h
      replace h := ao_ifF h (by decide)
      replace h := ao_ifF h (by decide)
      replace h := ao_ifT h rfl
      obtain ⟨hk3, h⟩ := ao_some h
      obtain ⟨p4, hp4, h⟩ := ao_bind h
      refine an_callVi q1 12 (q := (RX12, TX12, 83)) [.int s0] (aX12_fails (d - 1) (by omega) q1 s0 M ρ hp4) dX12_start_15 lc_X12_497 li_X12_fails ls_X12_fails rfl hk3 rfl rfl (Nat.le_of_ble_eq_true rfl) (ao_hR (by omega) (by decide)) ?_
      refine ao_if_eq 22 dX12_start_18 (by decide) (fun c5 => ?_) (fun c5 => ?_)
      · replace h := ao_ifT h c5
        refine ao_aload_n 0 dX12_start_22 rfl rfl ?_
        refine ao_iload_n 1 dX12_start_23 rfl rfl ?_
        obtain ⟨hk6, h⟩ := ao_some h
        obtain ⟨p7, hp7, h⟩ := ao_bind h
        refine an_callVv r0 12 (q := (RX12, TX12, 83)) [.int x1] (aX12_begin (d - 1) (by omega) _ r0 x1 p4.2 ρ hp7) dX12_start_24 lc_X12_329 li_X12_begin ls_X12_begin rfl hk6 rfl rfl (Nat.le_of_ble_eq_true rfl) (ao_hR (by omega) (by decide)) ?_
        cases h
        exact ao_return dX12_start_27 rfl ⟨rfl, rfl⟩
      · replace h := ao_ifF h c5
        cases h
        exact ao_return dX12_start_21 rfl ⟨rfl, rfl⟩
set_option maxRecDepth 100000 in
set_option maxHeartbeats 4000000 in
theorem aX12_start {Γ : ao_C} (d : Nat) (hd : 4 ≤ d) (n : Nat) (r0 : Nat) (x1 : Int32) (M : ao_M) (ρ : ao_H) {y : ao_M} (h : gX12_start n r0 x1 M ρ = some y) : ao_A Γ uX12_start d 0 0 [.ref (Γ.2.2.2 + r0), .int x1] (M, ρ) (ao_PV ρ y) := by
  refine ao_of (by decide) (ao_cat1 (Nat.le_of_ble_eq_true rfl)) (Nat.le_of_ble_eq_true rfl) ?_
  show ao_W Γ uX12_start (ao_rm d 0 0) (ao_Q Γ (ao_PV ρ y) 0 0) 0 0 0 [some (.ref (Γ.2.2.2 + r0)), some (.int x1)] [] (M, ρ)
  exact (wX12_start d hd n).1 r0 x1 M y h
