abbrev uX2_howManyAreLeft : ao_Mi := (yX2_howManyAreLeft, cX2_howManyAreLeft, 3, (some .int), [])
def fX2_howManyAreLeft : Nat → Nat → Nat → Int32 → Int32 →  ao_M → ao_H → Option (Int32 × ao_M)
  | 0, _, _, _, _, _, _ => none
  | n + 1, pc, r0, x1, x2, M, ρ =>
    if pc = 0 then
      fX2_howManyAreLeft n 4 r0 (0 : Int32) (0 : Int32) M ρ
    else if pc = 4 then
      if (6 : Int32) ≤ x2 then
        some (x1, M)
      else
        if ρ.2.1 r0 = 12 then
        (ρ.1 r0 1).bind fun j3 =>
        if ρ.2.1 j3 = 4 then
        if ¬ (x2 < 0 ∨ ρ.2.2.1 j3 ≤ x2.toNatClampNeg) then
        (ρ.1 j3 x2.toNatClampNeg).bind fun j6 =>
        if ρ.2.1 j6 = 17 then
        (gX7_isLeft n j6 M ρ).bind fun p8 =>
        if p8.1 = 0 then
          fX2_howManyAreLeft n 25 r0 x1 x2 p8.2 ρ
        else
          ao_let (x1 + (1 : Int32)) fun v10 =>
          fX2_howManyAreLeft n 25 r0 v10 x2 p8.2 ρ
        else none
        else none
        else none
        else none
    else if pc = 25 then
      ao_let (x2 + (1 : Int32)) fun v11 =>
      fX2_howManyAreLeft n 4 r0 x1 v11 M ρ
    else none
def gX2_howManyAreLeft (n : Nat) (r0 : Nat) (M : ao_M) (ρ : ao_H) : Option (Int32 × ao_M) := fX2_howManyAreLeft n 0 r0 0 0 M ρ
set_option maxRecDepth 100000 in
set_option maxHeartbeats 4000000 in
theorem wX2_howManyAreLeft {Γ : ao_C} {ρ : ao_H} (d : Nat) (hd : 1 ≤ d) : ∀ n : Nat, (∀ (r0 : Nat) (M : ao_M) (y : Int32 × ao_M), fX2_howManyAreLeft n 0 r0 0 0 M ρ = some y → ao_W Γ uX2_howManyAreLeft (ao_rm d 0 0) (ao_Q Γ (ao_PI ρ y) 0 0) 0 0 0 [some (.ref (Γ.2.2.2 + r0)), none, none] [] (M, ρ)) ∧ (∀ (r0 : Nat) (x1 : Int32) (x2 : Int32) (M : ao_M) (y : Int32 × ao_M), fX2_howManyAreLeft n 4 r0 x1 x2 M ρ = some y → ao_W Γ uX2_howManyAreLeft (ao_rm d 0 0) (ao_Q Γ (ao_PI ρ y) 0 0) 0 0 4 [some (.ref (Γ.2.2.2 + r0)), some (.int x1), some (.int x2)] [] (M, ρ)) ∧ (∀ (r0 : Nat) (x1 : Int32) (x2 : Int32) (M : ao_M) (y : Int32 × ao_M), fX2_howManyAreLeft n 25 r0 x1 x2 M ρ = some y → ao_W Γ uX2_howManyAreLeft (ao_rm d 0 0) (ao_Q Γ (ao_PI ρ y) 0 0) 0 0 25 [some (.ref (Γ.2.2.2 + r0)), some (.int x1), some (.int x2)] [] (M, ρ)) := by
  intro n
  induction n with
  | zero => exact ⟨fun _ _ _ h => ao_no h, fun _ _ _ _ _ h => ao_no h, fun _ _ _ _ _ h => ao_no h⟩
  | succ n ih =>
    refine ⟨?_, ?_, ?_⟩
    · intro r0 M y h
      replace h := ao_ifT h rfl
      refine ao_iconst (v := 0) dX2_howManyAreLeft_0 (by decide) ?_
      refine ao_istore_n 1 (lo' := [some (.ref (Γ.2.2.2 + r0)), some (.int (0 : Int32)), none]) dX2_howManyAreLeft_1 rfl (Nat.le_of_ble_eq_true rfl) rfl ?_
      refine ao_iconst (v := 0) dX2_howManyAreLeft_2 (by decide) ?_
      refine ao_istore_n 2 (lo' := [some (.ref (Γ.2.2.2 + r0)), some (.int (0 : Int32)), some (.int (0 : Int32))]) dX2_howManyAreLeft_3 rfl (Nat.le_of_ble_eq_true rfl) rfl ?_
      exact ih.2.1 r0 (0 : Int32) (0 : Int32) M _ h
    · intro r0 x1 x2 M y h
      replace h := ao_ifF h (by decide)
      replace h := ao_ifT h rfl
      refine ao_iload_n 2 dX2_howManyAreLeft_4 rfl rfl ?_
      refine ao_bipush (v := 6) dX2_howManyAreLeft_5 (by decide) ?_
      refine ao_icmp_ge 31 dX2_howManyAreLeft_7 (by decide) (fun c1 => ?_) (fun c1 => ?_)
      · replace h := ao_ifT h c1
        refine ao_iload_n 1 dX2_howManyAreLeft_31 rfl rfl ?_
        cases h
        exact ao_ireturn dX2_howManyAreLeft_32 rfl rfl ⟨rfl, rfl⟩
      · replace h := ao_ifF h c1
        refine ao_aload_n 0 dX2_howManyAreLeft_10 rfl rfl ?_
        obtain ⟨hk2, h⟩ := ao_some h
        obtain ⟨j3, hj3, h⟩ := ao_bind h
        refine an_getR r0 2 1 (q := (RX2, TX2, 7)) dX2_howManyAreLeft_11 rfl hk2 (Nat.le_of_ble_eq_true rfl) rfl lf_X2_34 hj3 ?_
        refine ao_iload_n 2 dX2_howManyAreLeft_14 rfl rfl ?_
        obtain ⟨hk4, h⟩ := ao_some h
        obtain ⟨hb5, h⟩ := ao_some h
        obtain ⟨j6, hj6, h⟩ := ao_bind h
        refine an_aaload j3 4 dX2_howManyAreLeft_15 hk4 (by decide) hb5 hj6 ?_
        obtain ⟨hk7, h⟩ := ao_some h
        obtain ⟨p8, hp8, h⟩ := ao_bind h
        refine an_callVi j6 7 (q := (RX7, TX7, 20)) [] (aX7_isLeft (d - 1) (by omega) _ j6 M ρ hp8) dX2_howManyAreLeft_16 lc_X2_73 li_X7_isLeft ls_X7_isLeft rfl hk7 rfl rfl (Nat.le_of_ble_eq_true rfl) (ao_hR (by omega) (by decide)) ?_
        refine ao_if_eq 25 dX2_howManyAreLeft_19 (by decide) (fun c9 => ?_) (fun c9 => ?_)
        · replace h := ao_ifT h c9
          exact ih.2.2 r0 x1 x2 p8.2 _ h
        · replace h := ao_ifF h c9
          obtain ⟨v10, hv10⟩ : ∃ z : Int32, z = x1 + (1 : Int32) := ⟨_, rfl⟩
          replace h := ao_letD h hv10
          refine ao_iinc 1 (v := v10) (lo' := [some (.ref (Γ.2.2.2 + r0)), some (.int v10), some (.int x2)]) dX2_howManyAreLeft_22 rfl (by rw [hv10]; rfl) (Nat.le_of_ble_eq_true rfl) rfl ?_
          exact ih.2.2 r0 v10 x2 p8.2 _ h
    · intro r0 x1 x2 M y h
      replace h := ao_ifF h (by decide)
      replace h := ao_ifF h (by decide)
      replace h := ao_ifT h rfl
      obtain ⟨v11, hv11⟩ : ∃ z : Int32, z = x2 + (1 : Int32) := ⟨_, rfl⟩
      replace h := ao_letD h hv11
      refine ao_iinc 2 (v := v11) (lo' := [some (.ref (Γ.2.2.2 + r0)), some (.int x1), some (.int v11)]) dX2_howManyAreLeft_25 rfl (by rw [hv11]; rfl) (Nat.le_of_ble_eq_true rfl) rfl ?_
      refine ao_goto 4 dX2_howManyAreLeft_28 (by decide) ?_
      exact ih.2.1 r0 x1 v11 M _ h
set_option maxRecDepth 100000 in
set_option maxHeartbeats 4000000 in
theorem aX2_howManyAreLeft {Γ : ao_C} (d : Nat) (hd : 1 ≤ d) (n : Nat) (r0 : Nat) (M : ao_M) (ρ : ao_H) {y : Int32 × ao_M} (h : gX2_howManyAreLeft n r0 M ρ = some y) : ao_A Γ uX2_howManyAreLeft d 0 0 [.ref (Γ.2.2.2 + r0)] (M, ρ) (ao_PI ρ y) := by
  refine ao_of (by decide) (ao_cat1 (Nat.le_of_ble_eq_true rfl)) (Nat.le_of_ble_eq_true rfl) ?_
  show ao_W Γ uX2_howManyAreLeft (ao_rm d 0 0) (ao_Q Γ (ao_PI ρ y) 0 0) 0 0 0 [some (.ref (Γ.2.2.2 + r0)), none, none] [] (M, ρ)
  exact (wX2_howManyAreLeft d hd n).1 r0 M y h

abbrev uX2_onTheWay : ao_Mi := (yX2_onTheWay, cX2_onTheWay, 4, none, [])
def fX2_onTheWay : Nat → Nat → Nat → Int32 → Int32 → Nat → Int32 → Nat →  ao_M → ao_H → Option (ao_M)
  | 0, _, _, _, _, _, _, _, _, _ => none
  | n + 1, pc, r0, x1, x2, q0, s0, q1, M, ρ =>
    if pc = 0 then
      if x1 = (0 : Int32) then
        some M
      else
        if x1 = (1 : Int32) then
          if ρ.2.1 r0 = 17 then
          (gX7_push r0 x2 M ρ).bind fun p4 =>
          some p4
          else none
        else
          if x1 = (2 : Int32) then
            if x2 < 0 then
              fX2_onTheWay n 100 r0 x1 x2 r0 0 0 M ρ
            else
              if (26 : Int32) ≤ x2 then
                fX2_onTheWay n 100 r0 x1 x2 r0 0 0 M ρ
              else
                if ρ.2.1 r0 = 17 then
                (ρ.1 r0 6).bind fun j9 =>
                if ρ.2.1 j9 = 0 then
                if ¬ (x2 < 0 ∨ ρ.2.2.1 j9 ≤ x2.toNatClampNeg) then
                fX2_onTheWay n 101 r0 x1 x2 0 (M j9 x2.toNatClampNeg) r0 M ρ
                else none
                else none
                else none
          else
            if x1 = (9 : Int32) then
              if ρ.2.1 r0 = 17 then
              (gX7_pop r0 M ρ).bind fun p14 =>
              (gX7_push r0 (-p14.1) p14.2 ρ).bind fun p15 =>
              some p15
              else none
            else
              if x1 = (10 : Int32) then
                if ρ.2.1 r0 = 17 then
                (gX7_pop r0 M ρ).bind fun p18 =>
                (gX2_setRegister r0 x2 p18.1 p18.2 ρ).bind fun p19 =>
                some p19
                else none
              else
                if x1 = (12 : Int32) then
                  if ρ.2.1 r0 = 17 then
                  ao_let (ao_u M r0 3 x2) fun M22 =>
                  some M22
                  else none
                else
                  if x1 = (13 : Int32) then
                    if ρ.2.1 r0 = 17 then
                    (gX7_pop r0 M ρ).bind fun p25 =>
                    if p25.1 = 0 then
                      ao_let (ao_u p25.2 r0 3 x2) fun M27 =>
                      some M27
                    else
                      some p25.2
                    else none
                  else
                    fX2_onTheWay n 157 r0 x1 x2 0 0 0 M ρ
    else if pc = 100 then
      fX2_onTheWay n 101 r0 x1 x2 0 (0 : Int32) q0 M ρ
    else if pc = 101 then
      if ρ.2.1 q1 = 17 then
      (gX7_push q1 s0 M ρ).bind fun p36 =>
      some p36
      else none
    else if pc = 157 then
      if ρ.2.1 r0 = 17 then
      (gX7_pop r0 M ρ).bind fun p38 =>
      ao_let p38.1 fun v39 =>
      (gX7_pop r0 p38.2 ρ).bind fun p40 =>
      (gX2_compute x1 p40.1 v39 p40.2 ρ).bind fun p41 =>
      (gX7_push r0 p41.1 p41.2 ρ).bind fun p42 =>
      some p42
      else none
    else none
def gX2_onTheWay (n : Nat) (r0 : Nat) (x1 : Int32) (x2 : Int32) (M : ao_M) (ρ : ao_H) : Option (ao_M) := fX2_onTheWay n 0 r0 x1 x2 0 0 0 M ρ
set_option maxRecDepth 100000 in
set_option maxHeartbeats 4000000 in
theorem wX2_onTheWay {Γ : ao_C} {ρ : ao_H} (d : Nat) (hd : 1 ≤ d) : ∀ n : Nat, (∀ (r0 : Nat) (x1 : Int32) (x2 : Int32) (M : ao_M) (y : ao_M), fX2_onTheWay n 0 r0 x1 x2 0 0 0 M ρ = some y → ao_W Γ uX2_onTheWay (ao_rm d 0 0) (ao_Q Γ (ao_PV ρ y) 0 0) 0 0 0 [some (.ref (Γ.2.2.2 + r0)), some (.int x1), some (.int x2), none] [] (M, ρ)) ∧ (∀ (r0 : Nat) (x1 : Int32) (x2 : Int32) (q0 : Nat) (M : ao_M) (y : ao_M), fX2_onTheWay n 100 r0 x1 x2 q0 0 0 M ρ = some y → ao_W Γ uX2_onTheWay (ao_rm d 0 0) (ao_Q Γ (ao_PV ρ y) 0 0) 0 0 100 [some (.ref (Γ.2.2.2 + r0)), some (.int x1), some (.int x2), none] [.ref (Γ.2.2.2 + q0)] (M, ρ)) ∧ (∀ (r0 : Nat) (x1 : Int32) (x2 : Int32) (s0 : Int32) (q1 : Nat) (M : ao_M) (y : ao_M), fX2_onTheWay n 101 r0 x1 x2 0 s0 q1 M ρ = some y → ao_W Γ uX2_onTheWay (ao_rm d 0 0) (ao_Q Γ (ao_PV ρ y) 0 0) 0 0 101 [some (.ref (Γ.2.2.2 + r0)), some (.int x1), some (.int x2), none] [.int s0, .ref (Γ.2.2.2 + q1)] (M, ρ)) ∧ (∀ (r0 : Nat) (x1 : Int32) (x2 : Int32) (M : ao_M) (y : ao_M), fX2_onTheWay n 157 r0 x1 x2 0 0 0 M ρ = some y → ao_W Γ uX2_onTheWay (ao_rm d 0 0) (ao_Q Γ (ao_PV ρ y) 0 0) 0 0 157 [some (.ref (Γ.2.2.2 + r0)), some (.int x1), some (.int x2), none] [] (M, ρ)) := by
  intro n
  induction n with
  | zero => exact ⟨fun _ _ _ _ _ h => ao_no h, fun _ _ _ _ _ _ h => ao_no h, fun _ _ _ _ _ _ _ h => ao_no h, fun _ _ _ _ _ h => ao_no h⟩
  | succ n ih =>
    refine ⟨?_, ?_, ?_, ?_⟩
    · intro r0 x1 x2 M y h
      replace h := ao_ifT h rfl
      refine ao_iload_n 1 dX2_onTheWay_0 rfl rfl ?_
      by_cases c1 : x1 = (0 : Int32)
      · replace h := ao_ifT h c1
        refine ao_tableIn 154 dX2_onTheWay_1 (by rw [c1]; decide) (by rw [c1]; decide) (by rw [c1]; rfl) (by decide) ?_
        refine ao_goto 175 dX2_onTheWay_154 (by decide) ?_
        cases h
        exact ao_return dX2_onTheWay_175 rfl ⟨rfl, rfl⟩
      · replace h := ao_ifF h c1
        by_cases c2 : x1 = (1 : Int32)
        · replace h := ao_ifT h c2
          refine ao_tableIn 72 dX2_onTheWay_1 (by rw [c2]; decide) (by rw [c2]; decide) (by rw [c2]; rfl) (by decide) ?_
          refine ao_aload_n 0 dX2_onTheWay_72 rfl rfl ?_
          refine ao_iload_n 2 dX2_onTheWay_73 rfl rfl ?_
          obtain ⟨hk3, h⟩ := ao_some h
          obtain ⟨p4, hp4, h⟩ := ao_bind h
          refine an_callVv r0 7 (q := (RX7, TX7, 20)) [.int x2] (aX7_push (d - 1) (by omega) r0 x2 M ρ hp4) dX2_onTheWay_74 lc_X2_152 li_X7_push ls_X7_push rfl hk3 rfl rfl (Nat.le_of_ble_eq_true rfl) (ao_hR (by omega) (by decide)) ?_
          refine ao_goto 175 dX2_onTheWay_77 (by decide) ?_
          cases h
          exact ao_return dX2_onTheWay_175 rfl ⟨rfl, rfl⟩
        · replace h := ao_ifF h c2
          by_cases c5 : x1 = (2 : Int32)
          · replace h := ao_ifT h c5
            refine ao_tableIn 80 dX2_onTheWay_1 (by rw [c5]; decide) (by rw [c5]; decide) (by rw [c5]; rfl) (by decide) ?_
            refine ao_aload_n 0 dX2_onTheWay_80 rfl rfl ?_
            refine ao_iload_n 2 dX2_onTheWay_81 rfl rfl ?_
            refine ao_if_lt 100 dX2_onTheWay_82 (by decide) (fun c6 => ?_) (fun c6 => ?_)
            · replace h := ao_ifT h c6
              exact ih.2.1 r0 x1 x2 r0 M _ h
            · replace h := ao_ifF h c6
              refine ao_iload_n 2 dX2_onTheWay_85 rfl rfl ?_
              refine ao_bipush (v := 26) dX2_onTheWay_86 (by decide) ?_
              refine ao_icmp_ge 100 dX2_onTheWay_88 (by decide) (fun c7 => ?_) (fun c7 => ?_)
              · replace h := ao_ifT h c7
                exact ih.2.1 r0 x1 x2 r0 M _ h
              · replace h := ao_ifF h c7
                refine ao_aload_n 0 dX2_onTheWay_91 rfl rfl ?_
                obtain ⟨hk8, h⟩ := ao_some h
                obtain ⟨j9, hj9, h⟩ := ao_bind h
                refine an_getR r0 7 6 (q := (RX7, TX7, 20)) dX2_onTheWay_92 rfl hk8 (Nat.le_of_ble_eq_true rfl) rfl lf_X2_155 hj9 ?_
                refine ao_iload_n 2 dX2_onTheWay_95 rfl rfl ?_
                obtain ⟨hk10, h⟩ := ao_some h
                obtain ⟨hb11, h⟩ := ao_some h
                refine an_iaload j9 dX2_onTheWay_96 hk10 hb11 ?_
                refine ao_goto 101 dX2_onTheWay_97 (by decide) ?_
                exact ih.2.2.1 r0 x1 x2 (M j9 x2.toNatClampNeg) r0 M _ h
          · replace h := ao_ifF h c5
            by_cases c12 : x1 = (9 : Int32)
            · replace h := ao_ifT h c12
              refine ao_tableIn 119 dX2_onTheWay_1 (by rw [c12]; decide) (by rw [c12]; decide) (by rw [c12]; rfl) (by decide) ?_
              refine ao_aload_n 0 dX2_onTheWay_119 rfl rfl ?_
              refine ao_aload_n 0 dX2_onTheWay_120 rfl rfl ?_
              obtain ⟨hk13, h⟩ := ao_some h
              obtain ⟨p14, hp14, h⟩ := ao_bind h
              refine an_callVi r0 7 (q := (RX7, TX7, 20)) [] (aX7_pop (d - 1) (by omega) r0 M ρ hp14) dX2_onTheWay_121 lc_X2_114 li_X7_pop ls_X7_pop rfl hk13 rfl rfl (Nat.le_of_ble_eq_true rfl) (ao_hR (by omega) (by decide)) ?_
              refine ao_ineg dX2_onTheWay_124 ?_
              obtain ⟨p15, hp15, h⟩ := ao_bind h
              refine an_callVv r0 7 (q := (RX7, TX7, 20)) [.int (-p14.1)] (aX7_push (d - 1) (by omega) r0 (-p14.1) p14.2 ρ hp15) dX2_onTheWay_125 lc_X2_152 li_X7_push ls_X7_push rfl hk13 rfl rfl (Nat.le_of_ble_eq_true rfl) (ao_hR (by omega) (by decide)) ?_
              refine ao_goto 175 dX2_onTheWay_128 (by decide) ?_
              cases h
              exact ao_return dX2_onTheWay_175 rfl ⟨rfl, rfl⟩
            · replace h := ao_ifF h c12
              by_cases c16 : x1 = (10 : Int32)
              · replace h := ao_ifT h c16
                refine ao_tableIn 107 dX2_onTheWay_1 (by rw [c16]; decide) (by rw [c16]; decide) (by rw [c16]; rfl) (by decide) ?_
                refine ao_aload_n 0 dX2_onTheWay_107 rfl rfl ?_
                refine ao_iload_n 2 dX2_onTheWay_108 rfl rfl ?_
                refine ao_aload_n 0 dX2_onTheWay_109 rfl rfl ?_
                obtain ⟨hk17, h⟩ := ao_some h
                obtain ⟨p18, hp18, h⟩ := ao_bind h
                refine an_callVi r0 7 (q := (RX7, TX7, 20)) [] (aX7_pop (d - 1) (by omega) r0 M ρ hp18) dX2_onTheWay_110 lc_X2_114 li_X7_pop ls_X7_pop rfl hk17 rfl rfl (Nat.le_of_ble_eq_true rfl) (ao_hR (by omega) (by decide)) ?_
                obtain ⟨p19, hp19, h⟩ := ao_bind h
                refine an_callSv [.ref (Γ.2.2.2 + r0), .int x2, .int p18.1] (aX2_setRegister (d - 1) (by omega) r0 x2 p18.1 p18.2 ρ hp19) dX2_onTheWay_113 lc_X2_158 lt_X2_setRegister rfl rfl (Nat.le_of_ble_eq_true rfl) (ao_hR (by omega) (by decide)) ?_
                refine ao_goto 175 dX2_onTheWay_116 (by decide) ?_
                cases h
                exact ao_return dX2_onTheWay_175 rfl ⟨rfl, rfl⟩
              · replace h := ao_ifF h c16
                by_cases c20 : x1 = (12 : Int32)
                · replace h := ao_ifT h c20
                  refine ao_tableIn 131 dX2_onTheWay_1 (by rw [c20]; decide) (by rw [c20]; decide) (by rw [c20]; rfl) (by decide) ?_
                  refine ao_aload_n 0 dX2_onTheWay_131 rfl rfl ?_
                  refine ao_iload_n 2 dX2_onTheWay_132 rfl rfl ?_
                  obtain ⟨hk21, h⟩ := ao_some h
                  refine an_putI r0 7 3 (q := (RX7, TX7, 20)) dX2_onTheWay_133 rfl hk21 (Nat.le_of_ble_eq_true rfl) lf_X2_92 rfl rfl rfl rfl (fun M22 hM22 => ?_)
                  replace h := ao_letD h hM22
                  refine ao_goto 175 dX2_onTheWay_136 (by decide) ?_
                  cases h
                  exact ao_return dX2_onTheWay_175 rfl ⟨rfl, rfl⟩
                · replace h := ao_ifF h c20
                  by_cases c23 : x1 = (13 : Int32)
                  · replace h := ao_ifT h c23
                    refine ao_tableIn 139 dX2_onTheWay_1 (by rw [c23]; decide) (by rw [c23]; decide) (by rw [c23]; rfl) (by decide) ?_
                    refine ao_aload_n 0 dX2_onTheWay_139 rfl rfl ?_
                    obtain ⟨hk24, h⟩ := ao_some h
                    obtain ⟨p25, hp25, h⟩ := ao_bind h
                    refine an_callVi r0 7 (q := (RX7, TX7, 20)) [] (aX7_pop (d - 1) (by omega) r0 M ρ hp25) dX2_onTheWay_140 lc_X2_114 li_X7_pop ls_X7_pop rfl hk24 rfl rfl (Nat.le_of_ble_eq_true rfl) (ao_hR (by omega) (by decide)) ?_
                    refine ao_if_ne 175 dX2_onTheWay_143 (by decide) (fun c26 => ?_) (fun c26 => ?_)
                    · replace h := ao_ifF h c26
                      cases h
                      exact ao_return dX2_onTheWay_175 rfl ⟨rfl, rfl⟩
                    · replace h := ao_ifT h c26
                      refine ao_aload_n 0 dX2_onTheWay_146 rfl rfl ?_
                      refine ao_iload_n 2 dX2_onTheWay_147 rfl rfl ?_
                      refine an_putI r0 7 3 (q := (RX7, TX7, 20)) dX2_onTheWay_148 rfl hk24 (Nat.le_of_ble_eq_true rfl) lf_X2_92 rfl rfl rfl rfl (fun M27 hM27 => ?_)
                      replace h := ao_letD h hM27
                      refine ao_goto 175 dX2_onTheWay_151 (by decide) ?_
                      cases h
                      exact ao_return dX2_onTheWay_175 rfl ⟨rfl, rfl⟩
                  · replace h := ao_ifF h c23
                    by_cases c28 : x1 = (3 : Int32)
                    · refine ao_tableIn 157 dX2_onTheWay_1 (by rw [c28]; decide) (by rw [c28]; decide) (by rw [c28]; rfl) (by decide) ?_
                      exact ih.2.2.2 r0 x1 x2 M _ h
                    · by_cases c29 : x1 = (4 : Int32)
                      · refine ao_tableIn 157 dX2_onTheWay_1 (by rw [c29]; decide) (by rw [c29]; decide) (by rw [c29]; rfl) (by decide) ?_
                        exact ih.2.2.2 r0 x1 x2 M _ h
                      · by_cases c30 : x1 = (5 : Int32)
                        · refine ao_tableIn 157 dX2_onTheWay_1 (by rw [c30]; decide) (by rw [c30]; decide) (by rw [c30]; rfl) (by decide) ?_
                          exact ih.2.2.2 r0 x1 x2 M _ h
                        · by_cases c31 : x1 = (6 : Int32)
                          · refine ao_tableIn 157 dX2_onTheWay_1 (by rw [c31]; decide) (by rw [c31]; decide) (by rw [c31]; rfl) (by decide) ?_
                            exact ih.2.2.2 r0 x1 x2 M _ h
                          · by_cases c32 : x1 = (7 : Int32)
                            · refine ao_tableIn 157 dX2_onTheWay_1 (by rw [c32]; decide) (by rw [c32]; decide) (by rw [c32]; rfl) (by decide) ?_
                              exact ih.2.2.2 r0 x1 x2 M _ h
                            · by_cases c33 : x1 = (8 : Int32)
                              · refine ao_tableIn 157 dX2_onTheWay_1 (by rw [c33]; decide) (by rw [c33]; decide) (by rw [c33]; rfl) (by decide) ?_
                                exact ih.2.2.2 r0 x1 x2 M _ h
                              · by_cases c34 : x1 = (11 : Int32)
                                · refine ao_tableIn 157 dX2_onTheWay_1 (by rw [c34]; decide) (by rw [c34]; decide) (by rw [c34]; rfl) (by decide) ?_
                                  exact ih.2.2.2 r0 x1 x2 M _ h
                                · refine ao_tableOut 157 dX2_onTheWay_1 (by have nc1 := ao_ne (z := 0) c1 (by decide); have nc2 := ao_ne (z := 1) c2 (by decide); have nc5 := ao_ne (z := 2) c5 (by decide); have nc12 := ao_ne (z := 9) c12 (by decide); have nc16 := ao_ne (z := 10) c16 (by decide); have nc20 := ao_ne (z := 12) c20 (by decide); have nc23 := ao_ne (z := 13) c23 (by decide); have nc28 := ao_ne (z := 3) c28 (by decide); have nc29 := ao_ne (z := 4) c29 (by decide); have nc30 := ao_ne (z := 5) c30 (by decide); have nc31 := ao_ne (z := 6) c31 (by decide); have nc32 := ao_ne (z := 7) c32 (by decide); have nc33 := ao_ne (z := 8) c33 (by decide); have nc34 := ao_ne (z := 11) c34 (by decide); omega) (by decide) ?_
                                  exact ih.2.2.2 r0 x1 x2 M _ h
    · intro r0 x1 x2 q0 M y h
      replace h := ao_ifF h (by decide)
      replace h := ao_ifT h rfl
      refine ao_iconst (v := 0) dX2_onTheWay_100 (by decide) ?_
      exact ih.2.2.1 r0 x1 x2 (0 : Int32) q0 M _ h
    · intro r0 x1 x2 s0 q1 M y h
      replace h := ao_ifF h (by decide)
      replace h := ao_ifF h (by decide)
      replace h := ao_ifT h rfl
      obtain ⟨hk35, h⟩ := ao_some h
      obtain ⟨p36, hp36, h⟩ := ao_bind h
      refine an_callVv q1 7 (q := (RX7, TX7, 20)) [.int s0] (aX7_push (d - 1) (by omega) q1 s0 M ρ hp36) dX2_onTheWay_101 lc_X2_152 li_X7_push ls_X7_push rfl hk35 rfl rfl (Nat.le_of_ble_eq_true rfl) (ao_hR (by omega) (by decide)) ?_
      refine ao_goto 175 dX2_onTheWay_104 (by decide) ?_
      cases h
      exact ao_return dX2_onTheWay_175 rfl ⟨rfl, rfl⟩
    · intro r0 x1 x2 M y h
      replace h := ao_ifF h (by decide)
      replace h := ao_ifF h (by decide)
      replace h := ao_ifF h (by decide)
      replace h := ao_ifT h rfl
      refine ao_aload_n 0 dX2_onTheWay_157 rfl rfl ?_
      obtain ⟨hk37, h⟩ := ao_some h
      obtain ⟨p38, hp38, h⟩ := ao_bind h
      refine an_callVi r0 7 (q := (RX7, TX7, 20)) [] (aX7_pop (d - 1) (by omega) r0 M ρ hp38) dX2_onTheWay_158 lc_X2_114 li_X7_pop ls_X7_pop rfl hk37 rfl rfl (Nat.le_of_ble_eq_true rfl) (ao_hR (by omega) (by decide)) ?_
      refine an_topi (fun v39 hv39 => ?_)
      replace h := ao_letD h hv39
      refine ao_istore_n 3 (lo' := [some (.ref (Γ.2.2.2 + r0)), some (.int x1), some (.int x2), some (.int v39)]) dX2_onTheWay_161 rfl (Nat.le_of_ble_eq_true rfl) rfl ?_
      refine ao_aload_n 0 dX2_onTheWay_162 rfl rfl ?_
      refine ao_iload_n 1 dX2_onTheWay_163 rfl rfl ?_
      refine ao_aload_n 0 dX2_onTheWay_164 rfl rfl ?_
      obtain ⟨p40, hp40, h⟩ := ao_bind h
      refine an_callVi r0 7 (q := (RX7, TX7, 20)) [] (aX7_pop (d - 1) (by omega) r0 p38.2 ρ hp40) dX2_onTheWay_165 lc_X2_114 li_X7_pop ls_X7_pop rfl hk37 rfl rfl (Nat.le_of_ble_eq_true rfl) (ao_hR (by omega) (by decide)) ?_
      refine ao_iload_n 3 dX2_onTheWay_168 rfl rfl ?_
      obtain ⟨p41, hp41, h⟩ := ao_bind h
      refine an_callSi [.int x1, .int p40.1, .int v39] (aX2_compute (d - 1) (by omega) x1 p40.1 v39 p40.2 ρ hp41) dX2_onTheWay_169 lc_X2_161 lt_X2_compute rfl rfl (Nat.le_of_ble_eq_true rfl) (ao_hR (by omega) (by decide)) ?_
      obtain ⟨p42, hp42, h⟩ := ao_bind h
      refine an_callVv r0 7 (q := (RX7, TX7, 20)) [.int p41.1] (aX7_push (d - 1) (by omega) r0 p41.1 p41.2 ρ hp42) dX2_onTheWay_172 lc_X2_152 li_X7_push ls_X7_push rfl hk37 rfl rfl (Nat.le_of_ble_eq_true rfl) (ao_hR (by omega) (by decide)) ?_
      cases h
      exact ao_return dX2_onTheWay_175 rfl ⟨rfl, rfl⟩
set_option maxRecDepth 100000 in
set_option maxHeartbeats 4000000 in
theorem aX2_onTheWay {Γ : ao_C} (d : Nat) (hd : 1 ≤ d) (n : Nat) (r0 : Nat) (x1 : Int32) (x2 : Int32) (M : ao_M) (ρ : ao_H) {y : ao_M} (h : gX2_onTheWay n r0 x1 x2 M ρ = some y) : ao_A Γ uX2_onTheWay d 0 0 [.ref (Γ.2.2.2 + r0), .int x1, .int x2] (M, ρ) (ao_PV ρ y) := by
  refine ao_of (by decide) (ao_cat1 (Nat.le_of_ble_eq_true rfl)) (Nat.le_of_ble_eq_true rfl) ?_
  show ao_W Γ uX2_onTheWay (ao_rm d 0 0) (ao_Q Γ (ao_PV ρ y) 0 0) 0 0 0 [some (.ref (Γ.2.2.2 + r0)), some (.int x1), some (.int x2), none] [] (M, ρ)
  exact (wX2_onTheWay d hd n).1 r0 x1 x2 M y h

abbrev uX2_again : ao_Mi := (yX2_again, cX2_again, 2, (some .int), [])
def gX2_again (r0 : Nat) (x1 : Int32) (M : ao_M) (ρ : ao_H) : Option (Int32 × ao_M) :=
  if ρ.2.1 r0 = 17 then
  (gX7_pop r0 M ρ).bind fun p2 =>
  if p2.1 = 0 then
    ao_let (ao_u p2.2 r0 3 x1) fun M4 =>
    some ((-1 : Int32), M4)
  else
    some ((0 : Int32), p2.2)
  else none
set_option maxRecDepth 100000 in
set_option maxHeartbeats 4000000 in
theorem aX2_again {Γ : ao_C} (d : Nat) (hd : 1 ≤ d) (r0 : Nat) (x1 : Int32) (M : ao_M) (ρ : ao_H) {y : Int32 × ao_M} (h : gX2_again r0 x1 M ρ = some y) : ao_A Γ uX2_again d 0 0 [.ref (Γ.2.2.2 + r0), .int x1] (M, ρ) (ao_PI ρ y) := by
  refine ao_of (by decide) (ao_cat1 (Nat.le_of_ble_eq_true rfl)) (Nat.le_of_ble_eq_true rfl) ?_
  show ao_W Γ uX2_again (ao_rm d 0 0) (ao_Q Γ (ao_PI ρ y) 0 0) 0 0 0 [some (.ref (Γ.2.2.2 + r0)), some (.int x1)] [] (M, ρ)
  unfold gX2_again at h
  refine ao_aload_n 0 dX2_again_0 rfl rfl ?_
  obtain ⟨hk1, h⟩ := ao_some h
  obtain ⟨p2, hp2, h⟩ := ao_bind h
  refine an_callVi r0 7 (q := (RX7, TX7, 20)) [] (aX7_pop (d - 1) (by omega) r0 M ρ hp2) dX2_again_1 lc_X2_114 li_X7_pop ls_X7_pop rfl hk1 rfl rfl (Nat.le_of_ble_eq_true rfl) (ao_hR (by omega) (by decide)) ?_
  refine ao_if_eq 9 dX2_again_4 (by decide) (fun c3 => ?_) (fun c3 => ?_)
  · replace h := ao_ifT h c3
    refine ao_aload_n 0 dX2_again_9 rfl rfl ?_
    refine ao_iload_n 1 dX2_again_10 rfl rfl ?_
    refine an_putI r0 7 3 (q := (RX7, TX7, 20)) dX2_again_11 rfl hk1 (Nat.le_of_ble_eq_true rfl) lf_X2_92 rfl rfl rfl rfl (fun M4 hM4 => ?_)
    replace h := ao_letD h hM4
    refine ao_iconst (v := (-1)) dX2_again_14 (by decide) ?_
    cases h
    exact ao_ireturn dX2_again_15 rfl rfl ⟨rfl, rfl⟩
  · replace h := ao_ifF h c3
    refine ao_iconst (v := 0) dX2_again_7 (by decide) ?_
    cases h
    exact ao_ireturn dX2_again_8 rfl rfl ⟨rfl, rfl⟩

abbrev uX2_say : ao_Mi := (yX2_say, cX2_say, 3, (some .int), [])
def gX2_say (r0 : Nat) (r1 : Nat) (x2 : Int32) (M : ao_M) (ρ : ao_H) : Option (Int32 × ao_M) :=
  if ρ.2.1 r1 = 17 then
  if (M r1 8) ≤ 0 then
    if ρ.2.1 r0 = 12 then
    (ρ.1 r0 2).bind fun j4 =>
    if ρ.2.1 j4 = 18 then
    (gX8_add j4 (M r1 0) x2 M ρ).bind fun p6 =>
    some ((0 : Int32), p6)
    else none
    else none
  else
    (gX7_hold r1 x2 M ρ).bind fun p7 =>
    some ((0 : Int32), p7)
  else none
set_option maxRecDepth 100000 in
set_option maxHeartbeats 4000000 in
theorem aX2_say {Γ : ao_C} (d : Nat) (hd : 1 ≤ d) (r0 : Nat) (r1 : Nat) (x2 : Int32) (M : ao_M) (ρ : ao_H) {y : Int32 × ao_M} (h : gX2_say r0 r1 x2 M ρ = some y) : ao_A Γ uX2_say d 0 0 [.ref (Γ.2.2.2 + r0), .ref (Γ.2.2.2 + r1), .int x2] (M, ρ) (ao_PI ρ y) := by
  refine ao_of (by decide) (ao_cat1 (Nat.le_of_ble_eq_true rfl)) (Nat.le_of_ble_eq_true rfl) ?_
  show ao_W Γ uX2_say (ao_rm d 0 0) (ao_Q Γ (ao_PI ρ y) 0 0) 0 0 0 [some (.ref (Γ.2.2.2 + r0)), some (.ref (Γ.2.2.2 + r1)), some (.int x2)] [] (M, ρ)
  unfold gX2_say at h
  refine ao_aload_n 1 dX2_say_0 rfl rfl ?_
  obtain ⟨hk1, h⟩ := ao_some h
  refine an_getI r1 7 8 (q := (RX7, TX7, 20)) dX2_say_1 rfl hk1 (Nat.le_of_ble_eq_true rfl) rfl lf_X2_165 ?_
  refine ao_if_le 15 dX2_say_4 (by decide) (fun c2 => ?_) (fun c2 => ?_)
  · replace h := ao_ifT h c2
    refine ao_aload_n 0 dX2_say_15 rfl rfl ?_
    obtain ⟨hk3, h⟩ := ao_some h
    obtain ⟨j4, hj4, h⟩ := ao_bind h
    refine an_getR r0 2 2 (q := (RX2, TX2, 7)) dX2_say_16 rfl hk3 (Nat.le_of_ble_eq_true rfl) rfl lf_X2_21 hj4 ?_
    refine ao_aload_n 1 dX2_say_19 rfl rfl ?_
    refine an_getI r1 7 0 (q := (RX7, TX7, 20)) dX2_say_20 rfl hk1 (Nat.le_of_ble_eq_true rfl) rfl lf_X2_171 ?_
    refine ao_iload_n 2 dX2_say_23 rfl rfl ?_
    obtain ⟨hk5, h⟩ := ao_some h
    obtain ⟨p6, hp6, h⟩ := ao_bind h
    refine an_callVv j4 8 (q := (RX8, TX8, 3)) [.int (M r1 0), .int x2] (aX8_add (d - 1) (by omega) j4 (M r1 0) x2 M ρ hp6) dX2_say_24 lc_X2_174 li_X8_add ls_X8_add rfl hk5 rfl rfl (Nat.le_of_ble_eq_true rfl) (ao_hR (by omega) (by decide)) ?_
    refine ao_iconst (v := 0) dX2_say_27 (by decide) ?_
    cases h
    exact ao_ireturn dX2_say_28 rfl rfl ⟨rfl, rfl⟩
  · replace h := ao_ifF h c2
    refine ao_aload_n 1 dX2_say_7 rfl rfl ?_
    refine ao_iload_n 2 dX2_say_8 rfl rfl ?_
    obtain ⟨p7, hp7, h⟩ := ao_bind h
    refine an_callVv r1 7 (q := (RX7, TX7, 20)) [.int x2] (aX7_hold (d - 1) (by omega) r1 x2 M ρ hp7) dX2_say_9 lc_X2_168 li_X7_hold ls_X7_hold rfl hk1 rfl rfl (Nat.le_of_ble_eq_true rfl) (ao_hR (by omega) (by decide)) ?_
    refine ao_goto 27 dX2_say_12 (by decide) ?_
    refine ao_iconst (v := 0) dX2_say_27 (by decide) ?_
    cases h
    exact ao_ireturn dX2_say_28 rfl rfl ⟨rfl, rfl⟩

abbrev uX2_loserAbout : ao_Mi := (yX2_loserAbout, cX2_loserAbout, 4, (some .int), [])
def gX2_loserAbout (r0 : Nat) (r1 : Nat) (x2 : Int32) (M : ao_M) (ρ : ao_H) : Option (Int32 × ao_M) :=
  if ρ.2.1 r0 = 12 then
  (ρ.1 r0 0).bind fun j2 =>
  if ρ.2.1 r1 = 17 then
  if ρ.2.1 j2 = 15 then
  (gX5_isTakenByOther j2 x2 (M r1 0) M ρ).bind fun p5 =>
  if p5.1 = 0 then
    some ((-1 : Int32), p5.2)
  else
    (ρ.1 j2 2).bind fun j7 =>
    if ρ.2.1 j7 = 0 then
    if ¬ (x2 < 0 ∨ ρ.2.2.1 j7 ≤ x2.toNatClampNeg) then
    ao_let (p5.2 j7 x2.toNatClampNeg) fun v10 =>
    if v10 < 0 then
      some ((-1 : Int32), p5.2)
    else
      if v10 < (6 : Int32) then
        (ρ.1 r0 1).bind fun j13 =>
        if ρ.2.1 j13 = 4 then
        if ¬ (v10 < 0 ∨ ρ.2.2.1 j13 ≤ v10.toNatClampNeg) then
        (ρ.1 j13 v10.toNatClampNeg).bind fun j16 =>
        if ρ.2.1 j16 = 17 then
        if (p5.2 j16 15) ≤ (p5.2 r1 15) then
          some ((p5.2 r1 0), p5.2)
        else
          some (v10, p5.2)
        else none
        else none
        else none
      else
        some ((-1 : Int32), p5.2)
    else none
    else none
  else none
  else none
  else none
set_option maxRecDepth 100000 in
set_option maxHeartbeats 4000000 in
theorem aX2_loserAbout {Γ : ao_C} (d : Nat) (hd : 1 ≤ d) (r0 : Nat) (r1 : Nat) (x2 : Int32) (M : ao_M) (ρ : ao_H) {y : Int32 × ao_M} (h : gX2_loserAbout r0 r1 x2 M ρ = some y) : ao_A Γ uX2_loserAbout d 0 0 [.ref (Γ.2.2.2 + r0), .ref (Γ.2.2.2 + r1), .int x2] (M, ρ) (ao_PI ρ y) := by
  refine ao_of (by decide) (ao_cat1 (Nat.le_of_ble_eq_true rfl)) (Nat.le_of_ble_eq_true rfl) ?_
  show ao_W Γ uX2_loserAbout (ao_rm d 0 0) (ao_Q Γ (ao_PI ρ y) 0 0) 0 0 0 [some (.ref (Γ.2.2.2 + r0)), some (.ref (Γ.2.2.2 + r1)), some (.int x2), none] [] (M, ρ)
  unfold gX2_loserAbout at h
  refine ao_aload_n 0 dX2_loserAbout_0 rfl rfl ?_
  obtain ⟨hk1, h⟩ := ao_some h
  obtain ⟨j2, hj2, h⟩ := ao_bind h
  refine an_getR r0 2 0 (q := (RX2, TX2, 7)) dX2_loserAbout_1 rfl hk1 (Nat.le_of_ble_eq_true rfl) rfl lf_X2_12 hj2 ?_
  refine ao_iload_n 2 dX2_loserAbout_4 rfl rfl ?_
  refine ao_aload_n 1 dX2_loserAbout_5 rfl rfl ?_
  obtain ⟨hk3, h⟩ := ao_some h
  refine an_getI r1 7 0 (q := (RX7, TX7, 20)) dX2_loserAbout_6 rfl hk3 (Nat.le_of_ble_eq_true rfl) rfl lf_X2_171 ?_
  obtain ⟨hk4, h⟩ := ao_some h
  obtain ⟨p5, hp5, h⟩ := ao_bind h
  refine an_callVi j2 5 (q := (RX5, TX5, 11)) [.int x2, .int (M r1 0)] (aX5_isTakenByOther (d - 1) (by omega) j2 x2 (M r1 0) M ρ hp5) dX2_loserAbout_9 lc_X2_251 li_X5_isTakenByOther ls_X5_isTakenByOther rfl hk4 rfl rfl (Nat.le_of_ble_eq_true rfl) (ao_hR (by omega) (by decide)) ?_
  refine ao_if_ne 17 dX2_loserAbout_12 (by decide) (fun c6 => ?_) (fun c6 => ?_)
  · replace h := ao_ifF h c6
    refine ao_aload_n 0 dX2_loserAbout_17 rfl rfl ?_
    refine an_getR r0 2 0 (q := (RX2, TX2, 7)) dX2_loserAbout_18 rfl hk1 (Nat.le_of_ble_eq_true rfl) rfl lf_X2_12 hj2 ?_
    obtain ⟨j7, hj7, h⟩ := ao_bind h
    refine an_getR j2 5 2 (q := (RX5, TX5, 11)) dX2_loserAbout_21 rfl hk4 (Nat.le_of_ble_eq_true rfl) rfl lf_X2_245 hj7 ?_
    refine ao_iload_n 2 dX2_loserAbout_24 rfl rfl ?_
    obtain ⟨hk8, h⟩ := ao_some h
    obtain ⟨hb9, h⟩ := ao_some h
    refine an_iaload j7 dX2_loserAbout_25 hk8 hb9 ?_
    refine an_topi (fun v10 hv10 => ?_)
    replace h := ao_letD h hv10
    refine ao_istore_n 3 (lo' := [some (.ref (Γ.2.2.2 + r0)), some (.ref (Γ.2.2.2 + r1)), some (.int x2), some (.int v10)]) dX2_loserAbout_26 rfl (Nat.le_of_ble_eq_true rfl) rfl ?_
    refine ao_iload_n 3 dX2_loserAbout_27 rfl rfl ?_
    refine ao_if_lt 37 dX2_loserAbout_28 (by decide) (fun c11 => ?_) (fun c11 => ?_)
    · replace h := ao_ifT h c11
      refine ao_iconst (v := (-1)) dX2_loserAbout_37 (by decide) ?_
      cases h
      exact ao_ireturn dX2_loserAbout_38 rfl rfl ⟨rfl, rfl⟩
    · replace h := ao_ifF h c11
      refine ao_iload_n 3 dX2_loserAbout_31 rfl rfl ?_
      refine ao_bipush (v := 6) dX2_loserAbout_32 (by decide) ?_
      refine ao_icmp_lt 39 dX2_loserAbout_34 (by decide) (fun c12 => ?_) (fun c12 => ?_)
      · replace h := ao_ifT h c12
        refine ao_aload_n 0 dX2_loserAbout_39 rfl rfl ?_
        obtain ⟨j13, hj13, h⟩ := ao_bind h
        refine an_getR r0 2 1 (q := (RX2, TX2, 7)) dX2_loserAbout_40 rfl hk1 (Nat.le_of_ble_eq_true rfl) rfl lf_X2_34 hj13 ?_
        refine ao_iload_n 3 dX2_loserAbout_43 rfl rfl ?_
        obtain ⟨hk14, h⟩ := ao_some h
        obtain ⟨hb15, h⟩ := ao_some h
        obtain ⟨j16, hj16, h⟩ := ao_bind h
        refine an_aaload j13 4 dX2_loserAbout_44 hk14 (by decide) hb15 hj16 ?_
        obtain ⟨hk17, h⟩ := ao_some h
        refine an_getI j16 7 15 (q := (RX7, TX7, 20)) dX2_loserAbout_45 rfl hk17 (Nat.le_of_ble_eq_true rfl) rfl lf_X2_254 ?_
        refine ao_aload_n 1 dX2_loserAbout_48 rfl rfl ?_
        refine an_getI r1 7 15 (q := (RX7, TX7, 20)) dX2_loserAbout_49 rfl hk3 (Nat.le_of_ble_eq_true rfl) rfl lf_X2_254 ?_
        refine ao_icmp_le 59 dX2_loserAbout_52 (by decide) (fun c18 => ?_) (fun c18 => ?_)
        · replace h := ao_ifT h c18
          refine ao_aload_n 1 dX2_loserAbout_59 rfl rfl ?_
          refine an_getI r1 7 0 (q := (RX7, TX7, 20)) dX2_loserAbout_60 rfl hk3 (Nat.le_of_ble_eq_true rfl) rfl lf_X2_171 ?_
          cases h
          exact ao_ireturn dX2_loserAbout_63 rfl rfl ⟨rfl, rfl⟩
        · replace h := ao_ifF h c18
          refine ao_iload_n 3 dX2_loserAbout_55 rfl rfl ?_
          refine ao_goto 63 dX2_loserAbout_56 (by decide) ?_
          cases h
          exact ao_ireturn dX2_loserAbout_63 rfl rfl ⟨rfl, rfl⟩
      · replace h := ao_ifF h c12
        refine ao_iconst (v := (-1)) dX2_loserAbout_37 (by decide) ?_
        cases h
        exact ao_ireturn dX2_loserAbout_38 rfl rfl ⟨rfl, rfl⟩
  · replace h := ao_ifT h c6
    refine ao_iconst (v := (-1)) dX2_loserAbout_15 (by decide) ?_
    cases h
    exact ao_ireturn dX2_loserAbout_16 rfl rfl ⟨rfl, rfl⟩

abbrev uX2_isWrong : ao_Mi := (yX2_isWrong, cX2_isWrong, 5, (some .boolean), [])
def fX2_isWrong : Nat → Nat → Nat → Nat → Nat → Int32 → Int32 →  ao_M → ao_H → Option (Int32 × ao_M)
  | 0, _, _, _, _, _, _, _, _ => none
  | n + 1, pc, r0, r1, r2, x3, x4, M, ρ =>
    if pc = 0 then
      if x3 < 0 then
        some ((0 : Int32), M)
      else
        if x3 < (26 : Int32) then
          if ρ.2.1 r2 = 13 then
          (ρ.1 r2 0).bind fun j4 =>
          if ρ.2.1 j4 = 0 then
          if ¬ (x3 < 0 ∨ ρ.2.2.1 j4 ≤ x3.toNatClampNeg) then
          ao_let (M j4 x3.toNatClampNeg) fun v7 =>
          if v7 < 0 then
            some ((0 : Int32), M)
          else
            if v7 < (26 : Int32) then
              if ρ.2.1 r0 = 12 then
              ao_let (M r0 5) fun v11 =>
              if v11 = (0 : Int32) then
                fX2_isWrong n 68 r0 r1 r2 x3 v7 M ρ
              else
                if v11 = (1 : Int32) then
                  (ρ.1 r0 0).bind fun j14 =>
                  if ρ.2.1 j14 = 15 then
                  (ρ.1 j14 0).bind fun j16 =>
                  if ρ.2.1 j16 = 0 then
                  if ¬ (v7 < 0 ∨ ρ.2.2.1 j16 ≤ v7.toNatClampNeg) then
                  (ρ.1 r2 1).bind fun j19 =>
                  if ρ.2.1 j19 = 0 then
                  if ¬ (x3 < 0 ∨ ρ.2.2.1 j19 ≤ x3.toNatClampNeg) then
                  if (M j16 v7.toNatClampNeg) = (M j19 x3.toNatClampNeg) then
                    some ((0 : Int32), M)
                  else
                    some ((1 : Int32), M)
                  else none
                  else none
                  else none
                  else none
                  else none
                else
                  if v11 = (2 : Int32) then
                    fX2_isWrong n 68 r0 r1 r2 x3 v7 M ρ
                  else
                    if v11 = (3 : Int32) then
                      (ρ.1 r0 0).bind fun j25 =>
                      if ρ.2.1 r1 = 17 then
                      if ρ.2.1 j25 = 15 then
                      (gX5_isTakenByOther j25 v7 (M r1 0) M ρ).bind fun p28 =>
                      if p28.1 = 0 then
                        (ρ.1 j25 1).bind fun j30 =>
                        if ρ.2.1 j30 = 0 then
                        if ¬ (v7 < 0 ∨ ρ.2.2.1 j30 ≤ v7.toNatClampNeg) then
                        (ρ.1 r2 2).bind fun j33 =>
                        if ρ.2.1 j33 = 0 then
                        if ¬ (x3 < 0 ∨ ρ.2.2.1 j33 ≤ x3.toNatClampNeg) then
                        if (p28.2 j30 v7.toNatClampNeg) = (p28.2 j33 x3.toNatClampNeg) then
                          some ((0 : Int32), p28.2)
                        else
                          fX2_isWrong n 151 r0 r1 r2 x3 v7 p28.2 ρ
                        else none
                        else none
                        else none
                        else none
                      else
                        fX2_isWrong n 151 r0 r1 r2 x3 v7 p28.2 ρ
                      else none
                      else none
                    else
                      some ((0 : Int32), M)
              else none
            else
              some ((0 : Int32), M)
          else none
          else none
          else none
        else
          some ((0 : Int32), M)
    else if pc = 68 then
      if ρ.2.1 r0 = 12 then
      (ρ.1 r0 0).bind fun j38 =>
      if ρ.2.1 j38 = 15 then
      (ρ.1 j38 1).bind fun j40 =>
      if ρ.2.1 j40 = 0 then
      if ¬ (x4 < 0 ∨ ρ.2.2.1 j40 ≤ x4.toNatClampNeg) then
      if ρ.2.1 r1 = 17 then
      if (M j40 x4.toNatClampNeg) ≤ (M r1 14) then
        some ((0 : Int32), M)
      else
        some ((1 : Int32), M)
      else none
      else none
      else none
      else none
      else none
    else if pc = 151 then
      some ((1 : Int32), M)
    else none
def gX2_isWrong (n : Nat) (r0 : Nat) (r1 : Nat) (r2 : Nat) (x3 : Int32) (M : ao_M) (ρ : ao_H) : Option (Int32 × ao_M) := fX2_isWrong n 0 r0 r1 r2 x3 0 M ρ
set_option maxRecDepth 100000 in
set_option maxHeartbeats 4000000 in
theorem wX2_isWrong {Γ : ao_C} {ρ : ao_H} (d : Nat) (hd : 1 ≤ d) : ∀ n : Nat, (∀ (r0 : Nat) (r1 : Nat) (r2 : Nat) (x3 : Int32) (M : ao_M) (y : Int32 × ao_M), fX2_isWrong n 0 r0 r1 r2 x3 0 M ρ = some y → ao_W Γ uX2_isWrong (ao_rm d 0 0) (ao_Q Γ (ao_PI ρ y) 0 0) 0 0 0 [some (.ref (Γ.2.2.2 + r0)), some (.ref (Γ.2.2.2 + r1)), some (.ref (Γ.2.2.2 + r2)), some (.int x3), none] [] (M, ρ)) ∧ (∀ (r0 : Nat) (r1 : Nat) (r2 : Nat) (x3 : Int32) (x4 : Int32) (M : ao_M) (y : Int32 × ao_M), fX2_isWrong n 68 r0 r1 r2 x3 x4 M ρ = some y → ao_W Γ uX2_isWrong (ao_rm d 0 0) (ao_Q Γ (ao_PI ρ y) 0 0) 0 0 68 [some (.ref (Γ.2.2.2 + r0)), some (.ref (Γ.2.2.2 + r1)), some (.ref (Γ.2.2.2 + r2)), some (.int x3), some (.int x4)] [] (M, ρ)) ∧ (∀ (r0 : Nat) (r1 : Nat) (r2 : Nat) (x3 : Int32) (x4 : Int32) (M : ao_M) (y : Int32 × ao_M), fX2_isWrong n 151 r0 r1 r2 x3 x4 M ρ = some y → ao_W Γ uX2_isWrong (ao_rm d 0 0) (ao_Q Γ (ao_PI ρ y) 0 0) 0 0 151 [some (.ref (Γ.2.2.2 + r0)), some (.ref (Γ.2.2.2 + r1)), some (.ref (Γ.2.2.2 + r2)), some (.int x3), some (.int x4)] [] (M, ρ)) := by
  intro n
  induction n with
  | zero => exact ⟨fun _ _ _ _ _ _ h => ao_no h, fun _ _ _ _ _ _ _ h => ao_no h, fun _ _ _ _ _ _ _ h => ao_no h⟩
  | succ n ih =>
    refine ⟨?_, ?_, ?_⟩
    · intro r0 r1 r2 x3 M y h
      replace h := ao_ifT h rfl
      refine ao_iload_n 3 dX2_isWrong_0 rfl rfl ?_
      refine ao_if_lt 10 dX2_isWrong_1 (by decide) (fun c1 => ?_) (fun c1 => ?_)
      · replace h := ao_ifT h c1
        refine ao_iconst (v := 0) dX2_isWrong_10 (by decide) ?_
        cases h
        exact ao_ireturn dX2_isWrong_11 rfl rfl ⟨rfl, rfl⟩
      · replace h := ao_ifF h c1
        refine ao_iload_n 3 dX2_isWrong_4 rfl rfl ?_
        refine ao_bipush (v := 26) dX2_isWrong_5 (by decide) ?_
        refine ao_icmp_lt 12 dX2_isWrong_7 (by decide) (fun c2 => ?_) (fun c2 => ?_)
        · replace h := ao_ifT h c2
          refine ao_aload_n 2 dX2_isWrong_12 rfl rfl ?_
          obtain ⟨hk3, h⟩ := ao_some h
          obtain ⟨j4, hj4, h⟩ := ao_bind h
          refine an_getR r2 3 0 (q := (RX3, TX3, 12)) dX2_isWrong_13 rfl hk3 (Nat.le_of_ble_eq_true rfl) rfl lf_X2_264 hj4 ?_
          refine ao_iload_n 3 dX2_isWrong_16 rfl rfl ?_
          obtain ⟨hk5, h⟩ := ao_some h
          obtain ⟨hb6, h⟩ := ao_some h
          refine an_iaload j4 dX2_isWrong_17 hk5 hb6 ?_
          refine an_topi (fun v7 hv7 => ?_)
          replace h := ao_letD h hv7
          refine ao_istore 4 (lo' := [some (.ref (Γ.2.2.2 + r0)), some (.ref (Γ.2.2.2 + r1)), some (.ref (Γ.2.2.2 + r2)), some (.int x3), some (.int v7)]) dX2_isWrong_18 (Nat.le_of_ble_eq_true rfl) rfl ?_
          refine ao_iload 4 dX2_isWrong_20 rfl ?_
          refine ao_if_lt 32 dX2_isWrong_22 (by decide) (fun c8 => ?_) (fun c8 => ?_)
          · replace h := ao_ifT h c8
            refine ao_iconst (v := 0) dX2_isWrong_32 (by decide) ?_
            cases h
            exact ao_ireturn dX2_isWrong_33 rfl rfl ⟨rfl, rfl⟩
          · replace h := ao_ifF h c8
            refine ao_iload 4 dX2_isWrong_25 rfl ?_
            refine ao_bipush (v := 26) dX2_isWrong_27 (by decide) ?_
            refine ao_icmp_lt 34 dX2_isWrong_29 (by decide) (fun c9 => ?_) (fun c9 => ?_)
            · replace h := ao_ifT h c9
              refine ao_aload_n 0 dX2_isWrong_34 rfl rfl ?_
              obtain ⟨hk10, h⟩ := ao_some h
              refine an_getI r0 2 5 (q := (RX2, TX2, 7)) dX2_isWrong_35 rfl hk10 (Nat.le_of_ble_eq_true rfl) rfl lf_X2_41 ?_
              refine an_topi (fun v11 hv11 => ?_)
              replace h := ao_letD h hv11
              by_cases c12 : v11 = (0 : Int32)
              · replace h := ao_ifT h c12
                refine ao_tableIn 68 dX2_isWrong_38 (by rw [c12]; decide) (by rw [c12]; decide) (by rw [c12]; rfl) (by decide) ?_
                exact ih.2.1 r0 r1 r2 x3 v7 M _ h
              · replace h := ao_ifF h c12
                by_cases c13 : v11 = (1 : Int32)
                · replace h := ao_ifT h c13
                  refine ao_tableIn 91 dX2_isWrong_38 (by rw [c13]; decide) (by rw [c13]; decide) (by rw [c13]; rfl) (by decide) ?_
                  refine ao_aload_n 0 dX2_isWrong_91 rfl rfl ?_
                  obtain ⟨j14, hj14, h⟩ := ao_bind h
                  refine an_getR r0 2 0 (q := (RX2, TX2, 7)) dX2_isWrong_92 rfl hk10 (Nat.le_of_ble_eq_true rfl) rfl lf_X2_12 hj14 ?_
                  obtain ⟨hk15, h⟩ := ao_some h
                  obtain ⟨j16, hj16, h⟩ := ao_bind h
                  refine an_getR j14 5 0 (q := (RX5, TX5, 11)) dX2_isWrong_95 rfl hk15 (Nat.le_of_ble_eq_true rfl) rfl lf_X2_188 hj16 ?_
                  refine ao_iload 4 dX2_isWrong_98 rfl ?_
                  obtain ⟨hk17, h⟩ := ao_some h
                  obtain ⟨hb18, h⟩ := ao_some h
                  refine an_iaload j16 dX2_isWrong_100 hk17 hb18 ?_
                  refine ao_aload_n 2 dX2_isWrong_101 rfl rfl ?_
                  obtain ⟨j19, hj19, h⟩ := ao_bind h
                  refine an_getR r2 3 1 (q := (RX3, TX3, 12)) dX2_isWrong_102 rfl hk3 (Nat.le_of_ble_eq_true rfl) rfl lf_X2_267 hj19 ?_
                  refine ao_iload_n 3 dX2_isWrong_105 rfl rfl ?_
                  obtain ⟨hk20, h⟩ := ao_some h
                  obtain ⟨hb21, h⟩ := ao_some h
                  refine an_iaload j19 dX2_isWrong_106 hk20 hb21 ?_
                  refine ao_icmp_eq 114 dX2_isWrong_107 (by decide) (fun c22 => ?_) (fun c22 => ?_)
                  · replace h := ao_ifT h c22
                    refine ao_iconst (v := 0) dX2_isWrong_114 (by decide) ?_
                    cases h
                    exact ao_ireturn dX2_isWrong_115 rfl rfl ⟨rfl, rfl⟩
                  · replace h := ao_ifF h c22
                    refine ao_iconst (v := 1) dX2_isWrong_110 (by decide) ?_
                    refine ao_goto 115 dX2_isWrong_111 (by decide) ?_
                    cases h
                    exact ao_ireturn dX2_isWrong_115 rfl rfl ⟨rfl, rfl⟩
                · replace h := ao_ifF h c13
                  by_cases c23 : v11 = (2 : Int32)
                  · replace h := ao_ifT h c23
                    refine ao_tableIn 68 dX2_isWrong_38 (by rw [c23]; decide) (by rw [c23]; decide) (by rw [c23]; rfl) (by decide) ?_
                    exact ih.2.1 r0 r1 r2 x3 v7 M _ h
                  · replace h := ao_ifF h c23
                    by_cases c24 : v11 = (3 : Int32)
                    · replace h := ao_ifT h c24
                      refine ao_tableIn 116 dX2_isWrong_38 (by rw [c24]; decide) (by rw [c24]; decide) (by rw [c24]; rfl) (by decide) ?_
                      refine ao_aload_n 0 dX2_isWrong_116 rfl rfl ?_
                      obtain ⟨j25, hj25, h⟩ := ao_bind h
                      refine an_getR r0 2 0 (q := (RX2, TX2, 7)) dX2_isWrong_117 rfl hk10 (Nat.le_of_ble_eq_true rfl) rfl lf_X2_12 hj25 ?_
                      refine ao_iload 4 dX2_isWrong_120 rfl ?_
                      refine ao_aload_n 1 dX2_isWrong_122 rfl rfl ?_
                      obtain ⟨hk26, h⟩ := ao_some h
                      refine an_getI r1 7 0 (q := (RX7, TX7, 20)) dX2_isWrong_123 rfl hk26 (Nat.le_of_ble_eq_true rfl) rfl lf_X2_171 ?_
                      obtain ⟨hk27, h⟩ := ao_some h
                      obtain ⟨p28, hp28, h⟩ := ao_bind h
                      refine an_callVi j25 5 (q := (RX5, TX5, 11)) [.int v7, .int (M r1 0)] (aX5_isTakenByOther (d - 1) (by omega) j25 v7 (M r1 0) M ρ hp28) dX2_isWrong_126 lc_X2_251 li_X5_isTakenByOther ls_X5_isTakenByOther rfl hk27 rfl rfl (Nat.le_of_ble_eq_true rfl) (ao_hR (by omega) (by decide)) ?_
                      refine ao_if_ne 151 dX2_isWrong_129 (by decide) (fun c29 => ?_) (fun c29 => ?_)
                      · replace h := ao_ifF h c29
                        exact ih.2.2 r0 r1 r2 x3 v7 p28.2 _ h
                      · replace h := ao_ifT h c29
                        refine ao_aload_n 0 dX2_isWrong_132 rfl rfl ?_
                        refine an_getR r0 2 0 (q := (RX2, TX2, 7)) dX2_isWrong_133 rfl hk10 (Nat.le_of_ble_eq_true rfl) rfl lf_X2_12 hj25 ?_
                        obtain ⟨j30, hj30, h⟩ := ao_bind h
                        refine an_getR j25 5 1 (q := (RX5, TX5, 11)) dX2_isWrong_136 rfl hk27 (Nat.le_of_ble_eq_true rfl) rfl lf_X2_206 hj30 ?_
                        refine ao_iload 4 dX2_isWrong_139 rfl ?_
                        obtain ⟨hk31, h⟩ := ao_some h
                        obtain ⟨hb32, h⟩ := ao_some h
                        refine an_iaload j30 dX2_isWrong_141 hk31 hb32 ?_
                        refine ao_aload_n 2 dX2_isWrong_142 rfl rfl ?_
                        obtain ⟨j33, hj33, h⟩ := ao_bind h
                        refine an_getR r2 3 2 (q := (RX3, TX3, 12)) dX2_isWrong_143 rfl hk3 (Nat.le_of_ble_eq_true rfl) rfl lf_X2_270 hj33 ?_
                        refine ao_iload_n 3 dX2_isWrong_146 rfl rfl ?_
                        obtain ⟨hk34, h⟩ := ao_some h
                        obtain ⟨hb35, h⟩ := ao_some h
                        refine an_iaload j33 dX2_isWrong_147 hk34 hb35 ?_
                        refine ao_icmp_eq 155 dX2_isWrong_148 (by decide) (fun c36 => ?_) (fun c36 => ?_)
                        · replace h := ao_ifT h c36
                          refine ao_iconst (v := 0) dX2_isWrong_155 (by decide) ?_
                          cases h
                          exact ao_ireturn dX2_isWrong_156 rfl rfl ⟨rfl, rfl⟩
                        · replace h := ao_ifF h c36
                          exact ih.2.2 r0 r1 r2 x3 v7 p28.2 _ h
                    · replace h := ao_ifF h c24
                      refine ao_tableOut 157 dX2_isWrong_38 (by have nc12 := ao_ne (z := 0) c12 (by decide); have nc13 := ao_ne (z := 1) c13 (by decide); have nc23 := ao_ne (z := 2) c23 (by decide); have nc24 := ao_ne (z := 3) c24 (by decide); omega) (by decide) ?_
                      refine ao_iconst (v := 0) dX2_isWrong_157 (by decide) ?_
                      cases h
                      exact ao_ireturn dX2_isWrong_158 rfl rfl ⟨rfl, rfl⟩
            · replace h := ao_ifF h c9
              refine ao_iconst (v := 0) dX2_isWrong_32 (by decide) ?_
              cases h
              exact ao_ireturn dX2_isWrong_33 rfl rfl ⟨rfl, rfl⟩
        · replace h := ao_ifF h c2
          refine ao_iconst (v := 0) dX2_isWrong_10 (by decide) ?_
          cases h
          exact ao_ireturn dX2_isWrong_11 rfl rfl ⟨rfl, rfl⟩
    · intro r0 r1 r2 x3 x4 M y h
      replace h := ao_ifF h (by decide)
      replace h := ao_ifT h rfl
      refine ao_aload_n 0 dX2_isWrong_68 rfl rfl ?_
      obtain ⟨hk37, h⟩ := ao_some h
      obtain ⟨j38, hj38, h⟩ := ao_bind h
      refine an_getR r0 2 0 (q := (RX2, TX2, 7)) dX2_isWrong_69 rfl hk37 (Nat.le_of_ble_eq_true rfl) rfl lf_X2_12 hj38 ?_
      obtain ⟨hk39, h⟩ := ao_some h
      obtain ⟨j40, hj40, h⟩ := ao_bind h
      refine an_getR j38 5 1 (q := (RX5, TX5, 11)) dX2_isWrong_72 rfl hk39 (Nat.le_of_ble_eq_true rfl) rfl lf_X2_206 hj40 ?_
      refine ao_iload 4 dX2_isWrong_75 rfl ?_
      obtain ⟨hk41, h⟩ := ao_some h
      obtain ⟨hb42, h⟩ := ao_some h
      refine an_iaload j40 dX2_isWrong_77 hk41 hb42 ?_
      refine ao_aload_n 1 dX2_isWrong_78 rfl rfl ?_
      obtain ⟨hk43, h⟩ := ao_some h
      refine an_getI r1 7 14 (q := (RX7, TX7, 20)) dX2_isWrong_79 rfl hk43 (Nat.le_of_ble_eq_true rfl) rfl lf_X2_224 ?_
      refine ao_icmp_le 89 dX2_isWrong_82 (by decide) (fun c44 => ?_) (fun c44 => ?_)
      · replace h := ao_ifT h c44
        refine ao_iconst (v := 0) dX2_isWrong_89 (by decide) ?_
        cases h
        exact ao_ireturn dX2_isWrong_90 rfl rfl ⟨rfl, rfl⟩
      · replace h := ao_ifF h c44
        refine ao_iconst (v := 1) dX2_isWrong_85 (by decide) ?_
        refine ao_goto 90 dX2_isWrong_86 (by decide) ?_
        cases h
        exact ao_ireturn dX2_isWrong_90 rfl rfl ⟨rfl, rfl⟩
    · intro r0 r1 r2 x3 x4 M y h
      replace h := ao_ifF h (by decide)
      replace h := ao_ifF h (by decide)
      replace h := ao_ifT h rfl
      refine ao_iconst (v := 1) dX2_isWrong_151 (by decide) ?_
      refine ao_goto 156 dX2_isWrong_152 (by decide) ?_
      cases h
      exact ao_ireturn dX2_isWrong_156 rfl rfl ⟨rfl, rfl⟩
set_option maxRecDepth 100000 in
set_option maxHeartbeats 4000000 in
theorem aX2_isWrong {Γ : ao_C} (d : Nat) (hd : 1 ≤ d) (n : Nat) (r0 : Nat) (r1 : Nat) (r2 : Nat) (x3 : Int32) (M : ao_M) (ρ : ao_H) {y : Int32 × ao_M} (h : gX2_isWrong n r0 r1 r2 x3 M ρ = some y) : ao_A Γ uX2_isWrong d 0 0 [.ref (Γ.2.2.2 + r0), .ref (Γ.2.2.2 + r1), .ref (Γ.2.2.2 + r2), .int x3] (M, ρ) (ao_PI ρ y) := by
  refine ao_of (by decide) (ao_cat1 (Nat.le_of_ble_eq_true rfl)) (Nat.le_of_ble_eq_true rfl) ?_
  show ao_W Γ uX2_isWrong (ao_rm d 0 0) (ao_Q Γ (ao_PI ρ y) 0 0) 0 0 0 [some (.ref (Γ.2.2.2 + r0)), some (.ref (Γ.2.2.2 + r1)), some (.ref (Γ.2.2.2 + r2)), some (.int x3), none] [] (M, ρ)
  exact (wX2_isWrong d hd n).1 r0 r1 r2 x3 M y h

abbrev uX2_takeBack : ao_Mi := (yX2_takeBack, cX2_takeBack, 5, none, [])
def fX2_takeBack : Nat → Nat → Nat → Nat → Int32 → Int32 → Nat →  ao_M → ao_H → Option (ao_M)
  | 0, _, _, _, _, _, _, _, _ => none
  | n + 1, pc, r0, r1, x2, x3, r4, M, ρ =>
    if pc = 0 then
      if ρ.2.1 r1 = 17 then
      ao_let ((M r1 8) - (1 : Int32)) fun v2 =>
      fX2_takeBack n 7 r0 r1 x2 v2 0 M ρ
      else none
    else if pc = 7 then
      if x3 < x2 then
        if ρ.2.1 r1 = 17 then
        (gX7_level n r1 x2 M ρ).bind fun p5 =>
        (gX7_setBackTo r1 p5.1 p5.2 ρ).bind fun p6 =>
        some p6
        else none
      else
        if ρ.2.1 r1 = 17 then
        (gX7_level n r1 x3 M ρ).bind fun p8 =>
        if ρ.2.1 r0 = 12 then
        (gX2_writesAtOnce n r0 p8.2 ρ).bind fun p10 =>
        if p10.1 = 0 then
          fX2_takeBack n 32 r0 r1 x2 x3 p8.1 p10.2 ρ
        else
          (gX2_giveBack n r0 p8.1 p10.2 ρ).bind fun p12 =>
          fX2_takeBack n 32 r0 r1 x2 x3 p8.1 p12 ρ
        else none
        else none
    else if pc = 32 then
      if ρ.2.1 r4 = 13 then
      (gX3_forgetWrites r4 M ρ).bind fun p14 =>
      ao_let (x3 + (-1 : Int32)) fun v15 =>
      fX2_takeBack n 7 r0 r1 x2 v15 0 p14 ρ
      else none
    else none
def gX2_takeBack (n : Nat) (r0 : Nat) (r1 : Nat) (x2 : Int32) (M : ao_M) (ρ : ao_H) : Option (ao_M) := fX2_takeBack n 0 r0 r1 x2 0 0 M ρ
set_option maxRecDepth 100000 in
set_option maxHeartbeats 4000000 in
theorem wX2_takeBack {Γ : ao_C} {ρ : ao_H} (d : Nat) (hd : 2 ≤ d) : ∀ n : Nat, (∀ (r0 : Nat) (r1 : Nat) (x2 : Int32) (M : ao_M) (y : ao_M), fX2_takeBack n 0 r0 r1 x2 0 0 M ρ = some y → ao_W Γ uX2_takeBack (ao_rm d 0 0) (ao_Q Γ (ao_PV ρ y) 0 0) 0 0 0 [some (.ref (Γ.2.2.2 + r0)), some (.ref (Γ.2.2.2 + r1)), some (.int x2), none, none] [] (M, ρ)) ∧ (∀ (r0 : Nat) (r1 : Nat) (x2 : Int32) (x3 : Int32) (M : ao_M) (y : ao_M), fX2_takeBack n 7 r0 r1 x2 x3 0 M ρ = some y → ao_W Γ uX2_takeBack (ao_rm d 0 0) (ao_Q Γ (ao_PV ρ y) 0 0) 0 0 7 [some (.ref (Γ.2.2.2 + r0)), some (.ref (Γ.2.2.2 + r1)), some (.int x2), some (.int x3), none] [] (M, ρ)) ∧ (∀ (r0 : Nat) (r1 : Nat) (x2 : Int32) (x3 : Int32) (r4 : Nat) (M : ao_M) (y : ao_M), fX2_takeBack n 32 r0 r1 x2 x3 r4 M ρ = some y → ao_W Γ uX2_takeBack (ao_rm d 0 0) (ao_Q Γ (ao_PV ρ y) 0 0) 0 0 32 [some (.ref (Γ.2.2.2 + r0)), some (.ref (Γ.2.2.2 + r1)), some (.int x2), some (.int x3), some (.ref (Γ.2.2.2 + r4))] [] (M, ρ)) := by
  intro n
  induction n with
  | zero => exact ⟨fun _ _ _ _ _ h => ao_no h, fun _ _ _ _ _ _ h => ao_no h, fun _ _ _ _ _ _ _ h => ao_no h⟩
  | succ n ih =>
    refine ⟨?_, ?_, ?_⟩
    · intro r0 r1 x2 M y h
      replace h := ao_ifT h rfl
      refine ao_aload_n 1 dX2_takeBack_0 rfl rfl ?_
      obtain ⟨hk1, h⟩ := ao_some h
      refine an_getI r1 7 8 (q := (RX7, TX7, 20)) dX2_takeBack_1 rfl hk1 (Nat.le_of_ble_eq_true rfl) rfl lf_X2_165 ?_
      refine ao_iconst (v := 1) dX2_takeBack_4 (by decide) ?_
      refine ao_isub dX2_takeBack_5 ?_
      refine an_topi (fun v2 hv2 => ?_)
      replace h := ao_letD h hv2
      refine ao_istore_n 3 (lo' := [some (.ref (Γ.2.2.2 + r0)), some (.ref (Γ.2.2.2 + r1)), some (.int x2), some (.int v2), none]) dX2_takeBack_6 rfl (Nat.le_of_ble_eq_true rfl) rfl ?_
      exact ih.2.1 r0 r1 x2 v2 M _ h
    · intro r0 r1 x2 x3 M y h
      replace h := ao_ifF h (by decide)
      replace h := ao_ifT h rfl
      refine ao_iload_n 3 dX2_takeBack_7 rfl rfl ?_
      refine ao_iload_n 2 dX2_takeBack_8 rfl rfl ?_
      refine ao_icmp_lt 43 dX2_takeBack_9 (by decide) (fun c3 => ?_) (fun c3 => ?_)
      · replace h := ao_ifT h c3
        refine ao_aload_n 1 dX2_takeBack_43 rfl rfl ?_
        refine ao_aload_n 1 dX2_takeBack_44 rfl rfl ?_
        refine ao_iload_n 2 dX2_takeBack_45 rfl rfl ?_
        obtain ⟨hk4, h⟩ := ao_some h
        obtain ⟨p5, hp5, h⟩ := ao_bind h
        refine an_callVr r1 7 (q := (RX7, TX7, 20)) [.int x2] (aX7_level (d - 1) (by omega) _ r1 x2 M ρ hp5) dX2_takeBack_46 lc_X2_213 li_X7_level ls_X7_level rfl hk4 rfl rfl (Nat.le_of_ble_eq_true rfl) (ao_hR (by omega) (by decide)) ?_
        obtain ⟨p6, hp6, h⟩ := ao_bind h
        refine an_callVv r1 7 (q := (RX7, TX7, 20)) [.ref (Γ.2.2.2 + p5.1)] (aX7_setBackTo (d - 1) (by omega) r1 p5.1 p5.2 ρ hp6) dX2_takeBack_49 lc_X2_301 li_X7_setBackTo ls_X7_setBackTo rfl hk4 rfl rfl (Nat.le_of_ble_eq_true rfl) (ao_hR (by omega) (by decide)) ?_
        cases h
        exact ao_return dX2_takeBack_52 rfl ⟨rfl, rfl⟩
      · replace h := ao_ifF h c3
        refine ao_aload_n 1 dX2_takeBack_12 rfl rfl ?_
        refine ao_iload_n 3 dX2_takeBack_13 rfl rfl ?_
        obtain ⟨hk7, h⟩ := ao_some h
        obtain ⟨p8, hp8, h⟩ := ao_bind h
        refine an_callVr r1 7 (q := (RX7, TX7, 20)) [.int x3] (aX7_level (d - 1) (by omega) _ r1 x3 M ρ hp8) dX2_takeBack_14 lc_X2_213 li_X7_level ls_X7_level rfl hk7 rfl rfl (Nat.le_of_ble_eq_true rfl) (ao_hR (by omega) (by decide)) ?_
        refine ao_astore 4 (lo' := [some (.ref (Γ.2.2.2 + r0)), some (.ref (Γ.2.2.2 + r1)), some (.int x2), some (.int x3), some (.ref (Γ.2.2.2 + p8.1))]) dX2_takeBack_17 (Nat.le_of_ble_eq_true rfl) rfl ?_
        refine ao_aload_n 0 dX2_takeBack_19 rfl rfl ?_
        obtain ⟨hk9, h⟩ := ao_some h
        obtain ⟨p10, hp10, h⟩ := ao_bind h
        refine an_callVi r0 2 (q := (RX2, TX2, 7)) [] (aX2_writesAtOnce (d - 1) (by omega) _ r0 p8.2 ρ hp10) dX2_takeBack_20 lc_X2_178 li_X2_writesAtOnce ls_X2_writesAtOnce rfl hk9 rfl rfl (Nat.le_of_ble_eq_true rfl) (ao_hR (by omega) (by decide)) ?_
        refine ao_if_eq 32 dX2_takeBack_23 (by decide) (fun c11 => ?_) (fun c11 => ?_)
        · replace h := ao_ifT h c11
          exact ih.2.2 r0 r1 x2 x3 p8.1 p10.2 _ h
        · replace h := ao_ifF h c11
          refine ao_aload_n 0 dX2_takeBack_26 rfl rfl ?_
          refine ao_aload 4 dX2_takeBack_27 rfl ?_
          obtain ⟨p12, hp12, h⟩ := ao_bind h
          refine an_callVv r0 2 (q := (RX2, TX2, 7)) [.ref (Γ.2.2.2 + p8.1)] (aX2_giveBack (d - 1) (by omega) _ r0 p8.1 p10.2 ρ hp12) dX2_takeBack_29 lc_X2_294 li_X2_giveBack ls_X2_giveBack rfl hk9 rfl rfl (Nat.le_of_ble_eq_true rfl) (ao_hR (by omega) (by decide)) ?_
          exact ih.2.2 r0 r1 x2 x3 p8.1 p12 _ h
    · intro r0 r1 x2 x3 r4 M y h
      replace h := ao_ifF h (by decide)
      replace h := ao_ifF h (by decide)
      replace h := ao_ifT h rfl
      refine ao_aload 4 dX2_takeBack_32 rfl ?_
      obtain ⟨hk13, h⟩ := ao_some h
      obtain ⟨p14, hp14, h⟩ := ao_bind h
      refine an_callVv r4 3 (q := (RX3, TX3, 12)) [] (aX3_forgetWrites (d - 1) (by omega) r4 M ρ hp14) dX2_takeBack_34 lc_X2_298 li_X3_forgetWrites ls_X3_forgetWrites rfl hk13 rfl rfl (Nat.le_of_ble_eq_true rfl) (ao_hR (by omega) (by decide)) ?_
      obtain ⟨v15, hv15⟩ : ∃ z : Int32, z = x3 + (-1 : Int32) := ⟨_, rfl⟩
      replace h := ao_letD h hv15
      refine ao_iinc 3 (v := v15) (lo' := [some (.ref (Γ.2.2.2 + r0)), some (.ref (Γ.2.2.2 + r1)), some (.int x2), some (.int v15), some (.ref (Γ.2.2.2 + r4))]) dX2_takeBack_37 rfl (by rw [hv15]; rfl) (Nat.le_of_ble_eq_true rfl) rfl ?_
      refine ao_goto 7 dX2_takeBack_40 (by decide) ?_
      refine ao_loForget (lo' := [some (.ref (Γ.2.2.2 + r0)), some (.ref (Γ.2.2.2 + r1)), some (.int x2), some (.int v15), none]) (ao_fgS (ao_fgS (ao_fgS (ao_fgS (ao_fgN ao_fgZ))))) ?_
      exact ih.2.1 r0 r1 x2 v15 p14 _ h
set_option maxRecDepth 100000 in
set_option maxHeartbeats 4000000 in
theorem aX2_takeBack {Γ : ao_C} (d : Nat) (hd : 2 ≤ d) (n : Nat) (r0 : Nat) (r1 : Nat) (x2 : Int32) (M : ao_M) (ρ : ao_H) {y : ao_M} (h : gX2_takeBack n r0 r1 x2 M ρ = some y) : ao_A Γ uX2_takeBack d 0 0 [.ref (Γ.2.2.2 + r0), .ref (Γ.2.2.2 + r1), .int x2] (M, ρ) (ao_PV ρ y) := by
  refine ao_of (by decide) (ao_cat1 (Nat.le_of_ble_eq_true rfl)) (Nat.le_of_ble_eq_true rfl) ?_
  show ao_W Γ uX2_takeBack (ao_rm d 0 0) (ao_Q Γ (ao_PV ρ y) 0 0) 0 0 0 [some (.ref (Γ.2.2.2 + r0)), some (.ref (Γ.2.2.2 + r1)), some (.int x2), none, none] [] (M, ρ)
  exact (wX2_takeBack d hd n).1 r0 r1 x2 M y h

abbrev uX2_foldReads : ao_Mi := (yX2_foldReads, cX2_foldReads, 3, none, [])
def fX2_foldReads : Nat → Nat → Nat → Int32 → Int32 →  ao_M → ao_H → Option (ao_M)
  | 0, _, _, _, _, _, _ => none
  | n + 1, pc, r0, x1, x2, M, ρ =>
    if pc = 0 then
      if ρ.2.1 r0 = 17 then
      ao_let ((M r0 8) - (1 : Int32)) fun v2 =>
      fX2_foldReads n 7 r0 x1 v2 M ρ
      else none
    else if pc = 7 then
      if x2 ≤ x1 then
        some M
      else
        if x2 ≤ 0 then
          some M
        else
          if ρ.2.1 r0 = 17 then
          (gX7_level n r0 (x2 - (1 : Int32)) M ρ).bind fun p6 =>
          (gX7_level n r0 x2 p6.2 ρ).bind fun p7 =>
          if ρ.2.1 p6.1 = 13 then
          (gX3_takeReadsOf n p6.1 p7.1 p7.2 ρ).bind fun p9 =>
          ao_let (x2 + (-1 : Int32)) fun v10 =>
          fX2_foldReads n 7 r0 x1 v10 p9 ρ
          else none
          else none
    else none
def gX2_foldReads (n : Nat) (r0 : Nat) (x1 : Int32) (M : ao_M) (ρ : ao_H) : Option (ao_M) := fX2_foldReads n 0 r0 x1 0 M ρ
set_option maxRecDepth 100000 in
set_option maxHeartbeats 4000000 in
theorem wX2_foldReads {Γ : ao_C} {ρ : ao_H} (d : Nat) (hd : 2 ≤ d) : ∀ n : Nat, (∀ (r0 : Nat) (x1 : Int32) (M : ao_M) (y : ao_M), fX2_foldReads n 0 r0 x1 0 M ρ = some y → ao_W Γ uX2_foldReads (ao_rm d 0 0) (ao_Q Γ (ao_PV ρ y) 0 0) 0 0 0 [some (.ref (Γ.2.2.2 + r0)), some (.int x1), none] [] (M, ρ)) ∧ (∀ (r0 : Nat) (x1 : Int32) (x2 : Int32) (M : ao_M) (y : ao_M), fX2_foldReads n 7 r0 x1 x2 M ρ = some y → ao_W Γ uX2_foldReads (ao_rm d 0 0) (ao_Q Γ (ao_PV ρ y) 0 0) 0 0 7 [some (.ref (Γ.2.2.2 + r0)), some (.int x1), some (.int x2)] [] (M, ρ)) := by
  intro n
  induction n with
  | zero => exact ⟨fun _ _ _ _ h => ao_no h, fun _ _ _ _ _ h => ao_no h⟩
  | succ n ih =>
    refine ⟨?_, ?_⟩
    · intro r0 x1 M y h
      replace h := ao_ifT h rfl
      refine ao_aload_n 0 dX2_foldReads_0 rfl rfl ?_
      obtain ⟨hk1, h⟩ := ao_some h
      refine an_getI r0 7 8 (q := (RX7, TX7, 20)) dX2_foldReads_1 rfl hk1 (Nat.le_of_ble_eq_true rfl) rfl lf_X2_165 ?_
      refine ao_iconst (v := 1) dX2_foldReads_4 (by decide) ?_
      refine ao_isub dX2_foldReads_5 ?_
      refine an_topi (fun v2 hv2 => ?_)
      replace h := ao_letD h hv2
      refine ao_istore_n 2 (lo' := [some (.ref (Γ.2.2.2 + r0)), some (.int x1), some (.int v2)]) dX2_foldReads_6 rfl (Nat.le_of_ble_eq_true rfl) rfl ?_
      exact ih.2 r0 x1 v2 M _ h
    · intro r0 x1 x2 M y h
      replace h := ao_ifF h (by decide)
      replace h := ao_ifT h rfl
      refine ao_iload_n 2 dX2_foldReads_7 rfl rfl ?_
      refine ao_iload_n 1 dX2_foldReads_8 rfl rfl ?_
      refine ao_icmp_le 37 dX2_foldReads_9 (by decide) (fun c3 => ?_) (fun c3 => ?_)
      · replace h := ao_ifT h c3
        cases h
        exact ao_return dX2_foldReads_37 rfl ⟨rfl, rfl⟩
      · replace h := ao_ifF h c3
        refine ao_iload_n 2 dX2_foldReads_12 rfl rfl ?_
        refine ao_if_le 37 dX2_foldReads_13 (by decide) (fun c4 => ?_) (fun c4 => ?_)
        · replace h := ao_ifT h c4
          cases h
          exact ao_return dX2_foldReads_37 rfl ⟨rfl, rfl⟩
        · replace h := ao_ifF h c4
          refine ao_aload_n 0 dX2_foldReads_16 rfl rfl ?_
          refine ao_iload_n 2 dX2_foldReads_17 rfl rfl ?_
          refine ao_iconst (v := 1) dX2_foldReads_18 (by decide) ?_
          refine ao_isub dX2_foldReads_19 ?_
          obtain ⟨hk5, h⟩ := ao_some h
          obtain ⟨p6, hp6, h⟩ := ao_bind h
          refine an_callVr r0 7 (q := (RX7, TX7, 20)) [.int (x2 - (1 : Int32))] (aX7_level (d - 1) (by omega) _ r0 (x2 - (1 : Int32)) M ρ hp6) dX2_foldReads_20 lc_X2_213 li_X7_level ls_X7_level rfl hk5 rfl rfl (Nat.le_of_ble_eq_true rfl) (ao_hR (by omega) (by decide)) ?_
          refine ao_aload_n 0 dX2_foldReads_23 rfl rfl ?_
          refine ao_iload_n 2 dX2_foldReads_24 rfl rfl ?_
          obtain ⟨p7, hp7, h⟩ := ao_bind h
          refine an_callVr r0 7 (q := (RX7, TX7, 20)) [.int x2] (aX7_level (d - 1) (by omega) _ r0 x2 p6.2 ρ hp7) dX2_foldReads_25 lc_X2_213 li_X7_level ls_X7_level rfl hk5 rfl rfl (Nat.le_of_ble_eq_true rfl) (ao_hR (by omega) (by decide)) ?_
          obtain ⟨hk8, h⟩ := ao_some h
          obtain ⟨p9, hp9, h⟩ := ao_bind h
          refine an_callVv p6.1 3 (q := (RX3, TX3, 12)) [.ref (Γ.2.2.2 + p7.1)] (aX3_takeReadsOf (d - 1) (by omega) _ p6.1 p7.1 p7.2 ρ hp9) dX2_foldReads_28 lc_X2_307 li_X3_takeReadsOf ls_X3_takeReadsOf rfl hk8 rfl rfl (Nat.le_of_ble_eq_true rfl) (ao_hR (by omega) (by decide)) ?_
          obtain ⟨v10, hv10⟩ : ∃ z : Int32, z = x2 + (-1 : Int32) := ⟨_, rfl⟩
          replace h := ao_letD h hv10
          refine ao_iinc 2 (v := v10) (lo' := [some (.ref (Γ.2.2.2 + r0)), some (.int x1), some (.int v10)]) dX2_foldReads_31 rfl (by rw [hv10]; rfl) (Nat.le_of_ble_eq_true rfl) rfl ?_
          refine ao_goto 7 dX2_foldReads_34 (by decide) ?_
          exact ih.2 r0 x1 v10 p9 _ h
set_option maxRecDepth 100000 in
set_option maxHeartbeats 4000000 in
theorem aX2_foldReads {Γ : ao_C} (d : Nat) (hd : 2 ≤ d) (n : Nat) (r0 : Nat) (x1 : Int32) (M : ao_M) (ρ : ao_H) {y : ao_M} (h : gX2_foldReads n r0 x1 M ρ = some y) : ao_A Γ uX2_foldReads d 0 0 [.ref (Γ.2.2.2 + r0), .int x1] (M, ρ) (ao_PV ρ y) := by
  refine ao_of (by decide) (ao_cat1 (Nat.le_of_ble_eq_true rfl)) (Nat.le_of_ble_eq_true rfl) ?_
  show ao_W Γ uX2_foldReads (ao_rm d 0 0) (ao_Q Γ (ao_PV ρ y) 0 0) 0 0 0 [some (.ref (Γ.2.2.2 + r0)), some (.int x1), none] [] (M, ρ)
  exact (wX2_foldReads d hd n).1 r0 x1 M y h

abbrev uX2_beginLevel : ao_Mi := (yX2_beginLevel, cX2_beginLevel, 3, (some .int), [])
def gX2_beginLevel (n : Nat) (r0 : Nat) (r1 : Nat) (x2 : Int32) (M : ao_M) (ρ : ao_H) : Option (Int32 × ao_M) :=
  if ρ.2.1 r1 = 17 then
  if (M r1 8) ≤ 0 then
    if ρ.2.1 r0 = 12 then
    (gX2_isBusy n r0 r1 M ρ).bind fun p4 =>
    if p4.1 = 0 then
      ao_let (ao_u p4.2 r1 13 (0 : Int32)) fun M6 =>
      (gX7_enterLevel n r1 x2 M6 ρ).bind fun p7 =>
      ao_let (ao_u p7 r1 2 (2 : Int32)) fun M8 =>
      (ρ.1 r0 0).bind fun j9 =>
      if ρ.2.1 j9 = 15 then
      ao_let (ao_u M8 r1 14 (M8 j9 4)) fun M11 =>
      ao_let (ao_u M11 r1 15 (M11 r0 6)) fun M12 =>
      ao_let (ao_u M12 r1 16 (M12 r0 6)) fun M13 =>
      some ((0 : Int32), M13)
      else none
    else
      ao_let (ao_u p4.2 r1 3 x2) fun M14 =>
      some ((4 : Int32), M14)
    else none
  else
    (gX7_enterLevel n r1 x2 M ρ).bind fun p15 =>
    some ((-1 : Int32), p15)
  else none
set_option maxRecDepth 100000 in
set_option maxHeartbeats 4000000 in
theorem aX2_beginLevel {Γ : ao_C} (d : Nat) (hd : 2 ≤ d) (n : Nat) (r0 : Nat) (r1 : Nat) (x2 : Int32) (M : ao_M) (ρ : ao_H) {y : Int32 × ao_M} (h : gX2_beginLevel n r0 r1 x2 M ρ = some y) : ao_A Γ uX2_beginLevel d 0 0 [.ref (Γ.2.2.2 + r0), .ref (Γ.2.2.2 + r1), .int x2] (M, ρ) (ao_PI ρ y) := by
  refine ao_of (by decide) (ao_cat1 (Nat.le_of_ble_eq_true rfl)) (Nat.le_of_ble_eq_true rfl) ?_
  show ao_W Γ uX2_beginLevel (ao_rm d 0 0) (ao_Q Γ (ao_PI ρ y) 0 0) 0 0 0 [some (.ref (Γ.2.2.2 + r0)), some (.ref (Γ.2.2.2 + r1)), some (.int x2)] [] (M, ρ)
  unfold gX2_beginLevel at h
  refine ao_aload_n 1 dX2_beginLevel_0 rfl rfl ?_
  obtain ⟨hk1, h⟩ := ao_some h
  refine an_getI r1 7 8 (q := (RX7, TX7, 20)) dX2_beginLevel_1 rfl hk1 (Nat.le_of_ble_eq_true rfl) rfl lf_X2_165 ?_
  refine ao_if_le 14 dX2_beginLevel_4 (by decide) (fun c2 => ?_) (fun c2 => ?_)
  · replace h := ao_ifT h c2
    refine ao_aload_n 0 dX2_beginLevel_14 rfl rfl ?_
    refine ao_aload_n 1 dX2_beginLevel_15 rfl rfl ?_
    obtain ⟨hk3, h⟩ := ao_some h
    obtain ⟨p4, hp4, h⟩ := ao_bind h
    refine an_callVi r0 2 (q := (RX2, TX2, 7)) [.ref (Γ.2.2.2 + r1)] (aX2_isBusy (d - 1) (by omega) _ r0 r1 M ρ hp4) dX2_beginLevel_16 lc_X2_316 li_X2_isBusy ls_X2_isBusy rfl hk3 rfl rfl (Nat.le_of_ble_eq_true rfl) (ao_hR (by omega) (by decide)) ?_
    refine ao_if_eq 29 dX2_beginLevel_19 (by decide) (fun c5 => ?_) (fun c5 => ?_)
    · replace h := ao_ifT h c5
      refine ao_aload_n 1 dX2_beginLevel_29 rfl rfl ?_
      refine ao_iconst (v := 0) dX2_beginLevel_30 (by decide) ?_
      refine an_putI r1 7 13 (q := (RX7, TX7, 20)) dX2_beginLevel_31 rfl hk1 (Nat.le_of_ble_eq_true rfl) lf_X2_320 rfl rfl rfl rfl (fun M6 hM6 => ?_)
      replace h := ao_letD h hM6
      refine ao_aload_n 1 dX2_beginLevel_34 rfl rfl ?_
      refine ao_iload_n 2 dX2_beginLevel_35 rfl rfl ?_
      obtain ⟨p7, hp7, h⟩ := ao_bind h
      refine an_callVv r1 7 (q := (RX7, TX7, 20)) [.int x2] (aX7_enterLevel (d - 1) (by omega) _ r1 x2 M6 ρ hp7) dX2_beginLevel_36 lc_X2_313 li_X7_enterLevel ls_X7_enterLevel rfl hk1 rfl rfl (Nat.le_of_ble_eq_true rfl) (ao_hR (by omega) (by decide)) ?_
      refine ao_aload_n 1 dX2_beginLevel_39 rfl rfl ?_
      refine ao_iconst (v := 2) dX2_beginLevel_40 (by decide) ?_
      refine an_putI r1 7 2 (q := (RX7, TX7, 20)) dX2_beginLevel_41 rfl hk1 (Nat.le_of_ble_eq_true rfl) lf_X2_55 rfl rfl rfl rfl (fun M8 hM8 => ?_)
      replace h := ao_letD h hM8
      refine ao_aload_n 1 dX2_beginLevel_44 rfl rfl ?_
      refine ao_aload_n 0 dX2_beginLevel_45 rfl rfl ?_
      obtain ⟨j9, hj9, h⟩ := ao_bind h
      refine an_getR r0 2 0 (q := (RX2, TX2, 7)) dX2_beginLevel_46 rfl hk3 (Nat.le_of_ble_eq_true rfl) rfl lf_X2_12 hj9 ?_
      obtain ⟨hk10, h⟩ := ao_some h
      refine an_getI j9 5 4 (q := (RX5, TX5, 11)) dX2_beginLevel_49 rfl hk10 (Nat.le_of_ble_eq_true rfl) rfl lf_X2_61 ?_
      refine an_putI r1 7 14 (q := (RX7, TX7, 20)) dX2_beginLevel_52 rfl hk1 (Nat.le_of_ble_eq_true rfl) lf_X2_224 rfl rfl rfl rfl (fun M11 hM11 => ?_)
      replace h := ao_letD h hM11
      refine ao_aload_n 1 dX2_beginLevel_55 rfl rfl ?_
      refine ao_aload_n 0 dX2_beginLevel_56 rfl rfl ?_
      refine an_getI r0 2 6 (q := (RX2, TX2, 7)) dX2_beginLevel_57 rfl hk3 (Nat.le_of_ble_eq_true rfl) rfl lf_X2_77 ?_
      refine an_putI r1 7 15 (q := (RX7, TX7, 20)) dX2_beginLevel_60 rfl hk1 (Nat.le_of_ble_eq_true rfl) lf_X2_254 rfl rfl rfl rfl (fun M12 hM12 => ?_)
      replace h := ao_letD h hM12
      refine ao_aload_n 1 dX2_beginLevel_63 rfl rfl ?_
      refine ao_aload_n 0 dX2_beginLevel_64 rfl rfl ?_
      refine an_getI r0 2 6 (q := (RX2, TX2, 7)) dX2_beginLevel_65 rfl hk3 (Nat.le_of_ble_eq_true rfl) rfl lf_X2_77 ?_
      refine an_putI r1 7 16 (q := (RX7, TX7, 20)) dX2_beginLevel_68 rfl hk1 (Nat.le_of_ble_eq_true rfl) lf_X2_286 rfl rfl rfl rfl (fun M13 hM13 => ?_)
      replace h := ao_letD h hM13
      refine ao_iconst (v := 0) dX2_beginLevel_71 (by decide) ?_
      cases h
      exact ao_ireturn dX2_beginLevel_72 rfl rfl ⟨rfl, rfl⟩
    · replace h := ao_ifF h c5
      refine ao_aload_n 1 dX2_beginLevel_22 rfl rfl ?_
      refine ao_iload_n 2 dX2_beginLevel_23 rfl rfl ?_
      refine an_putI r1 7 3 (q := (RX7, TX7, 20)) dX2_beginLevel_24 rfl hk1 (Nat.le_of_ble_eq_true rfl) lf_X2_92 rfl rfl rfl rfl (fun M14 hM14 => ?_)
      replace h := ao_letD h hM14
      refine ao_iconst (v := 4) dX2_beginLevel_27 (by decide) ?_
      cases h
      exact ao_ireturn dX2_beginLevel_28 rfl rfl ⟨rfl, rfl⟩
  · replace h := ao_ifF h c2
    refine ao_aload_n 1 dX2_beginLevel_7 rfl rfl ?_
    refine ao_iload_n 2 dX2_beginLevel_8 rfl rfl ?_
    obtain ⟨p15, hp15, h⟩ := ao_bind h
    refine an_callVv r1 7 (q := (RX7, TX7, 20)) [.int x2] (aX7_enterLevel (d - 1) (by omega) _ r1 x2 M ρ hp15) dX2_beginLevel_9 lc_X2_313 li_X7_enterLevel ls_X7_enterLevel rfl hk1 rfl rfl (Nat.le_of_ble_eq_true rfl) (ao_hR (by omega) (by decide)) ?_
    refine ao_iconst (v := (-1)) dX2_beginLevel_12 (by decide) ?_
    cases h
    exact ao_ireturn dX2_beginLevel_13 rfl rfl ⟨rfl, rfl⟩

abbrev uX2_joinAround : ao_Mi := (yX2_joinAround, cX2_joinAround, 5, none, [])
def fX2_joinAround : Nat → Nat → Nat → Nat → Nat → Nat → Int32 →  ao_M → ao_H → Option (ao_M)
  | 0, _, _, _, _, _, _, _, _ => none
  | n + 1, pc, r0, r1, r2, r3, x4, M, ρ =>
    if pc = 0 then
      if ρ.2.1 r1 = 17 then
      (gX7_level n r1 ((M r1 8) - (1 : Int32)) M ρ).bind fun p2 =>
      (gX7_level n r1 ((p2.2 r1 8) - (2 : Int32)) p2.2 ρ).bind fun p3 =>
      if ρ.2.1 p3.1 = 13 then
      (gX3_takeReadsOf n p3.1 p2.1 p3.2 ρ).bind fun p5 =>
      fX2_joinAround n 30 r0 r1 p2.1 p3.1 (0 : Int32) p5 ρ
      else none
      else none
    else if pc = 30 then
      if (26 : Int32) ≤ x4 then
        if ρ.2.1 r2 = 13 then
        (gX3_forgetWrites r2 M ρ).bind fun p8 =>
        if ρ.2.1 r1 = 17 then
        ao_let (ao_u p8 r1 8 ((p8 r1 8) - (1 : Int32))) fun M10 =>
        some M10
        else none
        else none
      else
        if ρ.2.1 r2 = 13 then
        (gX3_wrote r2 x4 M ρ).bind fun p12 =>
        if p12.1 = 0 then
          fX2_joinAround n 75 r0 r1 r2 r3 x4 p12.2 ρ
        else
          if ρ.2.1 r0 = 12 then
          (gX2_writesAtOnce n r0 p12.2 ρ).bind fun p15 =>
          if p15.1 = 0 then
            fX2_joinAround n 62 r0 r1 r2 r3 x4 p15.2 ρ
          else
            if ρ.2.1 r3 = 13 then
            (gX3_wrote r3 x4 p15.2 ρ).bind fun p18 =>
            if p18.1 = 0 then
              fX2_joinAround n 62 r0 r1 r2 r3 x4 p18.2 ρ
            else
              fX2_joinAround n 75 r0 r1 r2 r3 x4 p18.2 ρ
            else none
          else none
        else none
    else if pc = 62 then
      if ρ.2.1 r2 = 13 then
      (ρ.1 r2 5).bind fun j21 =>
      if ρ.2.1 j21 = 0 then
      if ¬ (x4 < 0 ∨ ρ.2.2.1 j21 ≤ x4.toNatClampNeg) then
      if ρ.2.1 r3 = 13 then
      (gX3_addWrite r3 x4 (M j21 x4.toNatClampNeg) M ρ).bind fun p25 =>
      fX2_joinAround n 75 r0 r1 r2 r3 x4 p25 ρ
      else none
      else none
      else none
      else none
    else if pc = 75 then
      ao_let (x4 + (1 : Int32)) fun v26 =>
      fX2_joinAround n 30 r0 r1 r2 r3 v26 M ρ
    else none
def gX2_joinAround (n : Nat) (r0 : Nat) (r1 : Nat) (M : ao_M) (ρ : ao_H) : Option (ao_M) := fX2_joinAround n 0 r0 r1 0 0 0 M ρ
set_option maxRecDepth 100000 in
set_option maxHeartbeats 4000000 in
theorem wX2_joinAround {Γ : ao_C} {ρ : ao_H} (d : Nat) (hd : 2 ≤ d) : ∀ n : Nat, (∀ (r0 : Nat) (r1 : Nat) (M : ao_M) (y : ao_M), fX2_joinAround n 0 r0 r1 0 0 0 M ρ = some y → ao_W Γ uX2_joinAround (ao_rm d 0 0) (ao_Q Γ (ao_PV ρ y) 0 0) 0 0 0 [some (.ref (Γ.2.2.2 + r0)), some (.ref (Γ.2.2.2 + r1)), none, none, none] [] (M, ρ)) ∧ (∀ (r0 : Nat) (r1 : Nat) (r2 : Nat) (r3 : Nat) (x4 : Int32) (M : ao_M) (y : ao_M), fX2_joinAround n 30 r0 r1 r2 r3 x4 M ρ = some y → ao_W Γ uX2_joinAround (ao_rm d 0 0) (ao_Q Γ (ao_PV ρ y) 0 0) 0 0 30 [some (.ref (Γ.2.2.2 + r0)), some (.ref (Γ.2.2.2 + r1)), some (.ref (Γ.2.2.2 + r2)), some (.ref (Γ.2.2.2 + r3)), some (.int x4)] [] (M, ρ)) ∧ (∀ (r0 : Nat) (r1 : Nat) (r2 : Nat) (r3 : Nat) (x4 : Int32) (M : ao_M) (y : ao_M), fX2_joinAround n 62 r0 r1 r2 r3 x4 M ρ = some y → ao_W Γ uX2_joinAround (ao_rm d 0 0) (ao_Q Γ (ao_PV ρ y) 0 0) 0 0 62 [some (.ref (Γ.2.2.2 + r0)), some (.ref (Γ.2.2.2 + r1)), some (.ref (Γ.2.2.2 + r2)), some (.ref (Γ.2.2.2 + r3)), some (.int x4)] [] (M, ρ)) ∧ (∀ (r0 : Nat) (r1 : Nat) (r2 : Nat) (r3 : Nat) (x4 : Int32) (M : ao_M) (y : ao_M), fX2_joinAround n 75 r0 r1 r2 r3 x4 M ρ = some y → ao_W Γ uX2_joinAround (ao_rm d 0 0) (ao_Q Γ (ao_PV ρ y) 0 0) 0 0 75 [some (.ref (Γ.2.2.2 + r0)), some (.ref (Γ.2.2.2 + r1)), some (.ref (Γ.2.2.2 + r2)), some (.ref (Γ.2.2.2 + r3)), some (.int x4)] [] (M, ρ)) := by
  intro n
  induction n with
  | zero => exact ⟨fun _ _ _ _ h => ao_no h, fun _ _ _ _ _ _ _ h => ao_no h, fun _ _ _ _ _ _ _ h => ao_no h, fun _ _ _ _ _ _ _ h => ao_no h⟩
  | succ n ih =>
    refine ⟨?_, ?_, ?_, ?_⟩
    · intro r0 r1 M y h
      replace h := ao_ifT h rfl
      refine ao_aload_n 1 dX2_joinAround_0 rfl rfl ?_
      refine ao_aload_n 1 dX2_joinAround_1 rfl rfl ?_
      obtain ⟨hk1, h⟩ := ao_some h
      refine an_getI r1 7 8 (q := (RX7, TX7, 20)) dX2_joinAround_2 rfl hk1 (Nat.le_of_ble_eq_true rfl) rfl lf_X2_165 ?_
      refine ao_iconst (v := 1) dX2_joinAround_5 (by decide) ?_
      refine ao_isub dX2_joinAround_6 ?_
      obtain ⟨p2, hp2, h⟩ := ao_bind h
      refine an_callVr r1 7 (q := (RX7, TX7, 20)) [.int ((M r1 8) - (1 : Int32))] (aX7_level (d - 1) (by omega) _ r1 ((M r1 8) - (1 : Int32)) M ρ hp2) dX2_joinAround_7 lc_X2_213 li_X7_level ls_X7_level rfl hk1 rfl rfl (Nat.le_of_ble_eq_true rfl) (ao_hR (by omega) (by decide)) ?_
      refine ao_astore_n 2 (lo' := [some (.ref (Γ.2.2.2 + r0)), some (.ref (Γ.2.2.2 + r1)), some (.ref (Γ.2.2.2 + p2.1)), none, none]) dX2_joinAround_10 rfl (Nat.le_of_ble_eq_true rfl) rfl ?_
      refine ao_aload_n 1 dX2_joinAround_11 rfl rfl ?_
      refine ao_aload_n 1 dX2_joinAround_12 rfl rfl ?_
      refine an_getI r1 7 8 (q := (RX7, TX7, 20)) dX2_joinAround_13 rfl hk1 (Nat.le_of_ble_eq_true rfl) rfl lf_X2_165 ?_
      refine ao_iconst (v := 2) dX2_joinAround_16 (by decide) ?_
      refine ao_isub dX2_joinAround_17 ?_
      obtain ⟨p3, hp3, h⟩ := ao_bind h
      refine an_callVr r1 7 (q := (RX7, TX7, 20)) [.int ((p2.2 r1 8) - (2 : Int32))] (aX7_level (d - 1) (by omega) _ r1 ((p2.2 r1 8) - (2 : Int32)) p2.2 ρ hp3) dX2_joinAround_18 lc_X2_213 li_X7_level ls_X7_level rfl hk1 rfl rfl (Nat.le_of_ble_eq_true rfl) (ao_hR (by omega) (by decide)) ?_
      refine ao_astore_n 3 (lo' := [some (.ref (Γ.2.2.2 + r0)), some (.ref (Γ.2.2.2 + r1)), some (.ref (Γ.2.2.2 + p2.1)), some (.ref (Γ.2.2.2 + p3.1)), none]) dX2_joinAround_21 rfl (Nat.le_of_ble_eq_true rfl) rfl ?_
      refine ao_aload_n 3 dX2_joinAround_22 rfl rfl ?_
      refine ao_aload_n 2 dX2_joinAround_23 rfl rfl ?_
      obtain ⟨hk4, h⟩ := ao_some h
      obtain ⟨p5, hp5, h⟩ := ao_bind h
      refine an_callVv p3.1 3 (q := (RX3, TX3, 12)) [.ref (Γ.2.2.2 + p2.1)] (aX3_takeReadsOf (d - 1) (by omega) _ p3.1 p2.1 p3.2 ρ hp5) dX2_joinAround_24 lc_X2_307 li_X3_takeReadsOf ls_X3_takeReadsOf rfl hk4 rfl rfl (Nat.le_of_ble_eq_true rfl) (ao_hR (by omega) (by decide)) ?_
      refine ao_iconst (v := 0) dX2_joinAround_27 (by decide) ?_
      refine ao_istore 4 (lo' := [some (.ref (Γ.2.2.2 + r0)), some (.ref (Γ.2.2.2 + r1)), some (.ref (Γ.2.2.2 + p2.1)), some (.ref (Γ.2.2.2 + p3.1)), some (.int (0 : Int32))]) dX2_joinAround_28 (Nat.le_of_ble_eq_true rfl) rfl ?_
      exact ih.2.1 r0 r1 p2.1 p3.1 (0 : Int32) p5 _ h
    · intro r0 r1 r2 r3 x4 M y h
      replace h := ao_ifF h (by decide)
      replace h := ao_ifT h rfl
      refine ao_iload 4 dX2_joinAround_30 rfl ?_
      refine ao_bipush (v := 26) dX2_joinAround_32 (by decide) ?_
      refine ao_icmp_ge 81 dX2_joinAround_34 (by decide) (fun c6 => ?_) (fun c6 => ?_)
      · replace h := ao_ifT h c6
        refine ao_aload_n 2 dX2_joinAround_81 rfl rfl ?_
        obtain ⟨hk7, h⟩ := ao_some h
        obtain ⟨p8, hp8, h⟩ := ao_bind h
        refine an_callVv r2 3 (q := (RX3, TX3, 12)) [] (aX3_forgetWrites (d - 1) (by omega) r2 M ρ hp8) dX2_joinAround_82 lc_X2_298 li_X3_forgetWrites ls_X3_forgetWrites rfl hk7 rfl rfl (Nat.le_of_ble_eq_true rfl) (ao_hR (by omega) (by decide)) ?_
        refine ao_aload_n 1 dX2_joinAround_85 rfl rfl ?_
        refine ao_dup dX2_joinAround_86 rfl ?_
        obtain ⟨hk9, h⟩ := ao_some h
        refine an_getI r1 7 8 (q := (RX7, TX7, 20)) dX2_joinAround_87 rfl hk9 (Nat.le_of_ble_eq_true rfl) rfl lf_X2_165 ?_
        refine ao_iconst (v := 1) dX2_joinAround_90 (by decide) ?_
        refine ao_isub dX2_joinAround_91 ?_
        refine an_putI r1 7 8 (q := (RX7, TX7, 20)) dX2_joinAround_92 rfl hk9 (Nat.le_of_ble_eq_true rfl) lf_X2_165 rfl rfl rfl rfl (fun M10 hM10 => ?_)
        replace h := ao_letD h hM10
        cases h
        exact ao_return dX2_joinAround_95 rfl ⟨rfl, rfl⟩
      · replace h := ao_ifF h c6
        refine ao_aload_n 2 dX2_joinAround_37 rfl rfl ?_
        refine ao_iload 4 dX2_joinAround_38 rfl ?_
        obtain ⟨hk11, h⟩ := ao_some h
        obtain ⟨p12, hp12, h⟩ := ao_bind h
        refine an_callVi r2 3 (q := (RX3, TX3, 12)) [.int x4] (aX3_wrote (d - 1) (by omega) r2 x4 M ρ hp12) dX2_joinAround_40 lc_X2_217 li_X3_wrote ls_X3_wrote rfl hk11 rfl rfl (Nat.le_of_ble_eq_true rfl) (ao_hR (by omega) (by decide)) ?_
        refine ao_if_eq 75 dX2_joinAround_43 (by decide) (fun c13 => ?_) (fun c13 => ?_)
        · replace h := ao_ifT h c13
          exact ih.2.2.2 r0 r1 r2 r3 x4 p12.2 _ h
        · replace h := ao_ifF h c13
          refine ao_aload_n 0 dX2_joinAround_46 rfl rfl ?_
          obtain ⟨hk14, h⟩ := ao_some h
          obtain ⟨p15, hp15, h⟩ := ao_bind h
          refine an_callVi r0 2 (q := (RX2, TX2, 7)) [] (aX2_writesAtOnce (d - 1) (by omega) _ r0 p12.2 ρ hp15) dX2_joinAround_47 lc_X2_178 li_X2_writesAtOnce ls_X2_writesAtOnce rfl hk14 rfl rfl (Nat.le_of_ble_eq_true rfl) (ao_hR (by omega) (by decide)) ?_
          refine ao_if_eq 62 dX2_joinAround_50 (by decide) (fun c16 => ?_) (fun c16 => ?_)
          · replace h := ao_ifT h c16
            exact ih.2.2.1 r0 r1 r2 r3 x4 p15.2 _ h
          · replace h := ao_ifF h c16
            refine ao_aload_n 3 dX2_joinAround_53 rfl rfl ?_
            refine ao_iload 4 dX2_joinAround_54 rfl ?_
            obtain ⟨hk17, h⟩ := ao_some h
            obtain ⟨p18, hp18, h⟩ := ao_bind h
            refine an_callVi r3 3 (q := (RX3, TX3, 12)) [.int x4] (aX3_wrote (d - 1) (by omega) r3 x4 p15.2 ρ hp18) dX2_joinAround_56 lc_X2_217 li_X3_wrote ls_X3_wrote rfl hk17 rfl rfl (Nat.le_of_ble_eq_true rfl) (ao_hR (by omega) (by decide)) ?_
            refine ao_if_ne 75 dX2_joinAround_59 (by decide) (fun c19 => ?_) (fun c19 => ?_)
            · replace h := ao_ifF h c19
              exact ih.2.2.2 r0 r1 r2 r3 x4 p18.2 _ h
            · replace h := ao_ifT h c19
              exact ih.2.2.1 r0 r1 r2 r3 x4 p18.2 _ h
    · intro r0 r1 r2 r3 x4 M y h
      replace h := ao_ifF h (by decide)
      replace h := ao_ifF h (by decide)
      replace h := ao_ifT h rfl
      refine ao_aload_n 3 dX2_joinAround_62 rfl rfl ?_
      refine ao_iload 4 dX2_joinAround_63 rfl ?_
      refine ao_aload_n 2 dX2_joinAround_65 rfl rfl ?_
      obtain ⟨hk20, h⟩ := ao_some h
      obtain ⟨j21, hj21, h⟩ := ao_bind h
      refine an_getR r2 3 5 (q := (RX3, TX3, 12)) dX2_joinAround_66 rfl hk20 (Nat.le_of_ble_eq_true rfl) rfl lf_X2_221 hj21 ?_
      refine ao_iload 4 dX2_joinAround_69 rfl ?_
      obtain ⟨hk22, h⟩ := ao_some h
      obtain ⟨hb23, h⟩ := ao_some h
      refine an_iaload j21 dX2_joinAround_71 hk22 hb23 ?_
      obtain ⟨hk24, h⟩ := ao_some h
      obtain ⟨p25, hp25, h⟩ := ao_bind h
      refine an_callVv r3 3 (q := (RX3, TX3, 12)) [.int x4, .int (M j21 x4.toNatClampNeg)] (aX3_addWrite (d - 1) (by omega) r3 x4 (M j21 x4.toNatClampNeg) M ρ hp25) dX2_joinAround_72 lc_X2_244 li_X3_addWrite ls_X3_addWrite rfl hk24 rfl rfl (Nat.le_of_ble_eq_true rfl) (ao_hR (by omega) (by decide)) ?_
      exact ih.2.2.2 r0 r1 r2 r3 x4 p25 _ h
    · intro r0 r1 r2 r3 x4 M y h
      replace h := ao_ifF h (by decide)
      replace h := ao_ifF h (by decide)
      replace h := ao_ifF h (by decide)
      replace h := ao_ifT h rfl
      obtain ⟨v26, hv26⟩ : ∃ z : Int32, z = x4 + (1 : Int32) := ⟨_, rfl⟩
      replace h := ao_letD h hv26
      refine ao_iinc 4 (v := v26) (lo' := [some (.ref (Γ.2.2.2 + r0)), some (.ref (Γ.2.2.2 + r1)), some (.ref (Γ.2.2.2 + r2)), some (.ref (Γ.2.2.2 + r3)), some (.int v26)]) dX2_joinAround_75 rfl (by rw [hv26]; rfl) (Nat.le_of_ble_eq_true rfl) rfl ?_
      refine ao_goto 30 dX2_joinAround_78 (by decide) ?_
      exact ih.2.1 r0 r1 r2 r3 v26 M _ h
set_option maxRecDepth 100000 in
set_option maxHeartbeats 4000000 in
theorem aX2_joinAround {Γ : ao_C} (d : Nat) (hd : 2 ≤ d) (n : Nat) (r0 : Nat) (r1 : Nat) (M : ao_M) (ρ : ao_H) {y : ao_M} (h : gX2_joinAround n r0 r1 M ρ = some y) : ao_A Γ uX2_joinAround d 0 0 [.ref (Γ.2.2.2 + r0), .ref (Γ.2.2.2 + r1)] (M, ρ) (ao_PV ρ y) := by
  refine ao_of (by decide) (ao_cat1 (Nat.le_of_ble_eq_true rfl)) (Nat.le_of_ble_eq_true rfl) ?_
  show ao_W Γ uX2_joinAround (ao_rm d 0 0) (ao_Q Γ (ao_PV ρ y) 0 0) 0 0 0 [some (.ref (Γ.2.2.2 + r0)), some (.ref (Γ.2.2.2 + r1)), none, none, none] [] (M, ρ)
  exact (wX2_joinAround d hd n).1 r0 r1 M y h

abbrev uX2_hasNews : ao_Mi := (yX2_hasNews, cX2_hasNews, 5, (some .boolean), [])
def fX2_hasNews : Nat → Nat → Nat → Nat → Nat → Int32 → Int32 →  ao_M → ao_H → Option (Int32 × ao_M)
  | 0, _, _, _, _, _, _, _, _ => none
  | n + 1, pc, r0, r1, r2, x3, x4, M, ρ =>
    if pc = 0 then
      if ρ.2.1 r1 = 17 then
      (gX7_level n r1 (0 : Int32) M ρ).bind fun p2 =>
      fX2_hasNews n 8 r0 r1 p2.1 (0 : Int32) 0 p2.2 ρ
      else none
    else if pc = 8 then
      if ρ.2.1 r2 = 13 then
      if (M r2 3) ≤ x3 then
        some ((0 : Int32), M)
      else
        if (26 : Int32) ≤ x3 then
          some ((0 : Int32), M)
        else
          (ρ.1 r2 0).bind fun j6 =>
          if ρ.2.1 j6 = 0 then
          if ¬ (x3 < 0 ∨ ρ.2.2.1 j6 ≤ x3.toNatClampNeg) then
          ao_let (M j6 x3.toNatClampNeg) fun v9 =>
          if v9 < 0 then
            fX2_hasNews n 79 r0 r1 r2 x3 v9 M ρ
          else
            if (26 : Int32) ≤ v9 then
              fX2_hasNews n 79 r0 r1 r2 x3 v9 M ρ
            else
              if ρ.2.1 r0 = 12 then
              (ρ.1 r0 0).bind fun j13 =>
              if ρ.2.1 r1 = 17 then
              if ρ.2.1 j13 = 15 then
              (gX5_isTakenByOther j13 v9 (M r1 0) M ρ).bind fun p16 =>
              if p16.1 = 0 then
                (ρ.1 j13 0).bind fun j18 =>
                if ρ.2.1 j18 = 0 then
                if ¬ (v9 < 0 ∨ ρ.2.2.1 j18 ≤ v9.toNatClampNeg) then
                (ρ.1 r2 1).bind fun j21 =>
                if ρ.2.1 j21 = 0 then
                if ¬ (x3 < 0 ∨ ρ.2.2.1 j21 ≤ x3.toNatClampNeg) then
                if (p16.2 j18 v9.toNatClampNeg) = (p16.2 j21 x3.toNatClampNeg) then
                  fX2_hasNews n 79 r0 r1 r2 x3 v9 p16.2 ρ
                else
                  some ((1 : Int32), p16.2)
                else none
                else none
                else none
                else none
              else
                fX2_hasNews n 79 r0 r1 r2 x3 v9 p16.2 ρ
              else none
              else none
              else none
          else none
          else none
      else none
    else if pc = 79 then
      ao_let (x3 + (1 : Int32)) fun v25 =>
      fX2_hasNews n 8 r0 r1 r2 v25 0 M ρ
    else none
def gX2_hasNews (n : Nat) (r0 : Nat) (r1 : Nat) (M : ao_M) (ρ : ao_H) : Option (Int32 × ao_M) := fX2_hasNews n 0 r0 r1 0 0 0 M ρ
set_option maxRecDepth 100000 in
set_option maxHeartbeats 4000000 in
theorem wX2_hasNews {Γ : ao_C} {ρ : ao_H} (d : Nat) (hd : 1 ≤ d) : ∀ n : Nat, (∀ (r0 : Nat) (r1 : Nat) (M : ao_M) (y : Int32 × ao_M), fX2_hasNews n 0 r0 r1 0 0 0 M ρ = some y → ao_W Γ uX2_hasNews (ao_rm d 0 0) (ao_Q Γ (ao_PI ρ y) 0 0) 0 0 0 [some (.ref (Γ.2.2.2 + r0)), some (.ref (Γ.2.2.2 + r1)), none, none, none] [] (M, ρ)) ∧ (∀ (r0 : Nat) (r1 : Nat) (r2 : Nat) (x3 : Int32) (M : ao_M) (y : Int32 × ao_M), fX2_hasNews n 8 r0 r1 r2 x3 0 M ρ = some y → ao_W Γ uX2_hasNews (ao_rm d 0 0) (ao_Q Γ (ao_PI ρ y) 0 0) 0 0 8 [some (.ref (Γ.2.2.2 + r0)), some (.ref (Γ.2.2.2 + r1)), some (.ref (Γ.2.2.2 + r2)), some (.int x3), none] [] (M, ρ)) ∧ (∀ (r0 : Nat) (r1 : Nat) (r2 : Nat) (x3 : Int32) (x4 : Int32) (M : ao_M) (y : Int32 × ao_M), fX2_hasNews n 79 r0 r1 r2 x3 x4 M ρ = some y → ao_W Γ uX2_hasNews (ao_rm d 0 0) (ao_Q Γ (ao_PI ρ y) 0 0) 0 0 79 [some (.ref (Γ.2.2.2 + r0)), some (.ref (Γ.2.2.2 + r1)), some (.ref (Γ.2.2.2 + r2)), some (.int x3), some (.int x4)] [] (M, ρ)) := by
  intro n
  induction n with
  | zero => exact ⟨fun _ _ _ _ h => ao_no h, fun _ _ _ _ _ _ h => ao_no h, fun _ _ _ _ _ _ _ h => ao_no h⟩
  | succ n ih =>
    refine ⟨?_, ?_, ?_⟩
    · intro r0 r1 M y h
      replace h := ao_ifT h rfl
      refine ao_aload_n 1 dX2_hasNews_0 rfl rfl ?_
      refine ao_iconst (v := 0) dX2_hasNews_1 (by decide) ?_
      obtain ⟨hk1, h⟩ := ao_some h
      obtain ⟨p2, hp2, h⟩ := ao_bind h
      refine an_callVr r1 7 (q := (RX7, TX7, 20)) [.int (0 : Int32)] (aX7_level (d - 1) (by omega) _ r1 (0 : Int32) M ρ hp2) dX2_hasNews_2 lc_X2_213 li_X7_level ls_X7_level rfl hk1 rfl rfl (Nat.le_of_ble_eq_true rfl) (ao_hR (by omega) (by decide)) ?_
      refine ao_astore_n 2 (lo' := [some (.ref (Γ.2.2.2 + r0)), some (.ref (Γ.2.2.2 + r1)), some (.ref (Γ.2.2.2 + p2.1)), none, none]) dX2_hasNews_5 rfl (Nat.le_of_ble_eq_true rfl) rfl ?_
      refine ao_iconst (v := 0) dX2_hasNews_6 (by decide) ?_
      refine ao_istore_n 3 (lo' := [some (.ref (Γ.2.2.2 + r0)), some (.ref (Γ.2.2.2 + r1)), some (.ref (Γ.2.2.2 + p2.1)), some (.int (0 : Int32)), none]) dX2_hasNews_7 rfl (Nat.le_of_ble_eq_true rfl) rfl ?_
      exact ih.2.1 r0 r1 p2.1 (0 : Int32) p2.2 _ h
    · intro r0 r1 r2 x3 M y h
      replace h := ao_ifF h (by decide)
      replace h := ao_ifT h rfl
      refine ao_iload_n 3 dX2_hasNews_8 rfl rfl ?_
      refine ao_aload_n 2 dX2_hasNews_9 rfl rfl ?_
      obtain ⟨hk3, h⟩ := ao_some h
      refine an_getI r2 3 3 (q := (RX3, TX3, 12)) dX2_hasNews_10 rfl hk3 (Nat.le_of_ble_eq_true rfl) rfl lf_X2_257 ?_
      refine ao_icmp_ge 85 dX2_hasNews_13 (by decide) (fun c4 => ?_) (fun c4 => ?_)
      · replace h := ao_ifT h c4
        refine ao_iconst (v := 0) dX2_hasNews_85 (by decide) ?_
        cases h
        exact ao_ireturn dX2_hasNews_86 rfl rfl ⟨rfl, rfl⟩
      · replace h := ao_ifF h c4
        refine ao_iload_n 3 dX2_hasNews_16 rfl rfl ?_
        refine ao_bipush (v := 26) dX2_hasNews_17 (by decide) ?_
        refine ao_icmp_ge 85 dX2_hasNews_19 (by decide) (fun c5 => ?_) (fun c5 => ?_)
        · replace h := ao_ifT h c5
          refine ao_iconst (v := 0) dX2_hasNews_85 (by decide) ?_
          cases h
          exact ao_ireturn dX2_hasNews_86 rfl rfl ⟨rfl, rfl⟩
        · replace h := ao_ifF h c5
          refine ao_aload_n 2 dX2_hasNews_22 rfl rfl ?_
          obtain ⟨j6, hj6, h⟩ := ao_bind h
          refine an_getR r2 3 0 (q := (RX3, TX3, 12)) dX2_hasNews_23 rfl hk3 (Nat.le_of_ble_eq_true rfl) rfl lf_X2_264 hj6 ?_
          refine ao_iload_n 3 dX2_hasNews_26 rfl rfl ?_
          obtain ⟨hk7, h⟩ := ao_some h
          obtain ⟨hb8, h⟩ := ao_some h
          refine an_iaload j6 dX2_hasNews_27 hk7 hb8 ?_
          refine an_topi (fun v9 hv9 => ?_)
          replace h := ao_letD h hv9
          refine ao_istore 4 (lo' := [some (.ref (Γ.2.2.2 + r0)), some (.ref (Γ.2.2.2 + r1)), some (.ref (Γ.2.2.2 + r2)), some (.int x3), some (.int v9)]) dX2_hasNews_28 (Nat.le_of_ble_eq_true rfl) rfl ?_
          refine ao_iload 4 dX2_hasNews_30 rfl ?_
          refine ao_if_lt 79 dX2_hasNews_32 (by decide) (fun c10 => ?_) (fun c10 => ?_)
          · replace h := ao_ifT h c10
            exact ih.2.2 r0 r1 r2 x3 v9 M _ h
          · replace h := ao_ifF h c10
            refine ao_iload 4 dX2_hasNews_35 rfl ?_
            refine ao_bipush (v := 26) dX2_hasNews_37 (by decide) ?_
            refine ao_icmp_ge 79 dX2_hasNews_39 (by decide) (fun c11 => ?_) (fun c11 => ?_)
            · replace h := ao_ifT h c11
              exact ih.2.2 r0 r1 r2 x3 v9 M _ h
            · replace h := ao_ifF h c11
              refine ao_aload_n 0 dX2_hasNews_42 rfl rfl ?_
              obtain ⟨hk12, h⟩ := ao_some h
              obtain ⟨j13, hj13, h⟩ := ao_bind h
              refine an_getR r0 2 0 (q := (RX2, TX2, 7)) dX2_hasNews_43 rfl hk12 (Nat.le_of_ble_eq_true rfl) rfl lf_X2_12 hj13 ?_
              refine ao_iload 4 dX2_hasNews_46 rfl ?_
              refine ao_aload_n 1 dX2_hasNews_48 rfl rfl ?_
              obtain ⟨hk14, h⟩ := ao_some h
              refine an_getI r1 7 0 (q := (RX7, TX7, 20)) dX2_hasNews_49 rfl hk14 (Nat.le_of_ble_eq_true rfl) rfl lf_X2_171 ?_
              obtain ⟨hk15, h⟩ := ao_some h
              obtain ⟨p16, hp16, h⟩ := ao_bind h
              refine an_callVi j13 5 (q := (RX5, TX5, 11)) [.int v9, .int (M r1 0)] (aX5_isTakenByOther (d - 1) (by omega) j13 v9 (M r1 0) M ρ hp16) dX2_hasNews_52 lc_X2_251 li_X5_isTakenByOther ls_X5_isTakenByOther rfl hk15 rfl rfl (Nat.le_of_ble_eq_true rfl) (ao_hR (by omega) (by decide)) ?_
              refine ao_if_ne 79 dX2_hasNews_55 (by decide) (fun c17 => ?_) (fun c17 => ?_)
              · replace h := ao_ifF h c17
                exact ih.2.2 r0 r1 r2 x3 v9 p16.2 _ h
              · replace h := ao_ifT h c17
                refine ao_aload_n 0 dX2_hasNews_58 rfl rfl ?_
                refine an_getR r0 2 0 (q := (RX2, TX2, 7)) dX2_hasNews_59 rfl hk12 (Nat.le_of_ble_eq_true rfl) rfl lf_X2_12 hj13 ?_
                obtain ⟨j18, hj18, h⟩ := ao_bind h
                refine an_getR j13 5 0 (q := (RX5, TX5, 11)) dX2_hasNews_62 rfl hk15 (Nat.le_of_ble_eq_true rfl) rfl lf_X2_188 hj18 ?_
                refine ao_iload 4 dX2_hasNews_65 rfl ?_
                obtain ⟨hk19, h⟩ := ao_some h
                obtain ⟨hb20, h⟩ := ao_some h
                refine an_iaload j18 dX2_hasNews_67 hk19 hb20 ?_
                refine ao_aload_n 2 dX2_hasNews_68 rfl rfl ?_
                obtain ⟨j21, hj21, h⟩ := ao_bind h
                refine an_getR r2 3 1 (q := (RX3, TX3, 12)) dX2_hasNews_69 rfl hk3 (Nat.le_of_ble_eq_true rfl) rfl lf_X2_267 hj21 ?_
                refine ao_iload_n 3 dX2_hasNews_72 rfl rfl ?_
                obtain ⟨hk22, h⟩ := ao_some h
                obtain ⟨hb23, h⟩ := ao_some h
                refine an_iaload j21 dX2_hasNews_73 hk22 hb23 ?_
                refine ao_icmp_eq 79 dX2_hasNews_74 (by decide) (fun c24 => ?_) (fun c24 => ?_)
                · replace h := ao_ifT h c24
                  exact ih.2.2 r0 r1 r2 x3 v9 p16.2 _ h
                · replace h := ao_ifF h c24
                  refine ao_iconst (v := 1) dX2_hasNews_77 (by decide) ?_
                  cases h
                  exact ao_ireturn dX2_hasNews_78 rfl rfl ⟨rfl, rfl⟩
    · intro r0 r1 r2 x3 x4 M y h
      replace h := ao_ifF h (by decide)
      replace h := ao_ifF h (by decide)
      replace h := ao_ifT h rfl
      obtain ⟨v25, hv25⟩ : ∃ z : Int32, z = x3 + (1 : Int32) := ⟨_, rfl⟩
      replace h := ao_letD h hv25
      refine ao_iinc 3 (v := v25) (lo' := [some (.ref (Γ.2.2.2 + r0)), some (.ref (Γ.2.2.2 + r1)), some (.ref (Γ.2.2.2 + r2)), some (.int v25), some (.int x4)]) dX2_hasNews_79 rfl (by rw [hv25]; rfl) (Nat.le_of_ble_eq_true rfl) rfl ?_
      refine ao_goto 8 dX2_hasNews_82 (by decide) ?_
      refine ao_loForget (lo' := [some (.ref (Γ.2.2.2 + r0)), some (.ref (Γ.2.2.2 + r1)), some (.ref (Γ.2.2.2 + r2)), some (.int v25), none]) (ao_fgS (ao_fgS (ao_fgS (ao_fgS (ao_fgN ao_fgZ))))) ?_
      exact ih.2.1 r0 r1 r2 v25 M _ h
set_option maxRecDepth 100000 in
set_option maxHeartbeats 4000000 in
theorem aX2_hasNews {Γ : ao_C} (d : Nat) (hd : 1 ≤ d) (n : Nat) (r0 : Nat) (r1 : Nat) (M : ao_M) (ρ : ao_H) {y : Int32 × ao_M} (h : gX2_hasNews n r0 r1 M ρ = some y) : ao_A Γ uX2_hasNews d 0 0 [.ref (Γ.2.2.2 + r0), .ref (Γ.2.2.2 + r1)] (M, ρ) (ao_PI ρ y) := by
  refine ao_of (by decide) (ao_cat1 (Nat.le_of_ble_eq_true rfl)) (Nat.le_of_ble_eq_true rfl) ?_
  show ao_W Γ uX2_hasNews (ao_rm d 0 0) (ao_Q Γ (ao_PI ρ y) 0 0) 0 0 0 [some (.ref (Γ.2.2.2 + r0)), some (.ref (Γ.2.2.2 + r1)), none, none, none] [] (M, ρ)
  exact (wX2_hasNews d hd n).1 r0 r1 M y h

abbrev uX4_init : ao_Mi := (yX4_init, cX4_init, 1, none, [])
def fX4_init : Nat → Nat → Nat → Nat → Nat →  ao_M → ao_H → Option (ao_S)
  | 0, _, _, _, _, _, _ => none
  | n + 1, pc, r0, q0, q1, M, ρ =>
    if pc = 0 then
      (ρ.2.2.2.1).bind fun n1 =>
      fX4_init n 8 r0 n1 r0 (ao_zr M n1) (ao_nw ρ n1 19 0 11)
    else if pc = 8 then
      (gX9_init n q0 M ρ).bind fun p2 =>
      fX4_init n 12 r0 q0 q1 p2.1 p2.2
    else if pc = 12 then
      if ρ.2.1 q1 = 14 then
      fX4_init n 15 r0 0 0 M (ao_r ρ q1 0 (some q0))
      else none
    else if pc = 15 then
      (ρ.2.2.2.1).bind fun n4 =>
      fX4_init n 19 r0 n4 r0 (ao_zr M n4) (ao_nw ρ n4 11 0 6)
    else if pc = 19 then
      (gX1_init n q0 (1000 : Int32) M ρ).bind fun p5 =>
      fX4_init n 26 r0 q0 q1 p5.1 p5.2
    else if pc = 26 then
      if ρ.2.1 q1 = 14 then
      fX4_init n 29 r0 0 0 M (ao_r ρ q1 1 (some q0))
      else none
    else if pc = 29 then
      if ρ.2.1 r0 = 14 then
      ao_let (ao_u M r0 2 (-1 : Int32)) fun M8 =>
      some (M8, ρ)
      else none
    else none
def gX4_init (n : Nat) (r0 : Nat) (M : ao_M) (ρ : ao_H) : Option (ao_S) := fX4_init n 0 r0 0 0 M ρ
set_option maxRecDepth 100000 in
set_option maxHeartbeats 4000000 in
theorem mX4_init : ∀ n : Nat, (∀ (r0 : Nat) (M : ao_M) (ρ : ao_H) (y : ao_S), fX4_init n 0 r0 0 0 M ρ = some y → ao_le ρ y.2) ∧ (∀ (r0 : Nat) (q0 : Nat) (q1 : Nat) (M : ao_M) (ρ : ao_H) (y : ao_S), fX4_init n 8 r0 q0 q1 M ρ = some y → ao_le ρ y.2) ∧ (∀ (r0 : Nat) (q0 : Nat) (q1 : Nat) (M : ao_M) (ρ : ao_H) (y : ao_S), fX4_init n 12 r0 q0 q1 M ρ = some y → ao_le ρ y.2) ∧ (∀ (r0 : Nat) (M : ao_M) (ρ : ao_H) (y : ao_S), fX4_init n 15 r0 0 0 M ρ = some y → ao_le ρ y.2) ∧ (∀ (r0 : Nat) (q0 : Nat) (q1 : Nat) (M : ao_M) (ρ : ao_H) (y : ao_S), fX4_init n 19 r0 q0 q1 M ρ = some y → ao_le ρ y.2) ∧ (∀ (r0 : Nat) (q0 : Nat) (q1 : Nat) (M : ao_M) (ρ : ao_H) (y : ao_S), fX4_init n 26 r0 q0 q1 M ρ = some y → ao_le ρ y.2) ∧ (∀ (r0 : Nat) (M : ao_M) (ρ : ao_H) (y : ao_S), fX4_init n 29 r0 0 0 M ρ = some y → ao_le ρ y.2) := by
  intro n
  induction n with
  | zero => exact ⟨fun _ _ _ _ h => ao_no h, fun _ _ _ _ _ _ h => ao_no h, fun _ _ _ _ _ _ h => ao_no h, fun _ _ _ _ h => ao_no h, fun _ _ _ _ _ _ h => ao_no h, fun _ _ _ _ _ _ h => ao_no h, fun _ _ _ _ h => ao_no h⟩
  | succ n ih =>
    refine ⟨?_, ?_, ?_, ?_, ?_, ?_, ?_⟩
    · intro r0 M ρ y h
      replace h := ao_ifT h rfl
      obtain ⟨n1, hn1, h⟩ := ao_bind h
      exact ao_le_tr (ao_le_nw _ _ _ _ _) (ih.2.1 r0 n1 r0 (ao_zr M n1) (ao_nw ρ n1 19 0 11) _ h)
    · intro r0 q0 q1 M ρ y h
      replace h := ao_ifF h (by decide)
      replace h := ao_ifT h rfl
      obtain ⟨p2, hp2, h⟩ := ao_bind h
      exact ao_le_tr (me_X9_init n q0 M ρ hp2) (ih.2.2.1 r0 q0 q1 p2.1 p2.2 _ h)
    · intro r0 q0 q1 M ρ y h
      replace h := ao_ifF h (by decide)
      replace h := ao_ifF h (by decide)
      replace h := ao_ifT h rfl
      obtain ⟨-, h⟩ := ao_some h
      exact ao_le_tr (ao_le_r _ _ _ _) (ih.2.2.2.1 r0 M (ao_r ρ q1 0 (some q0)) _ h)
    · intro r0 M ρ y h
      replace h := ao_ifF h (by decide)
      replace h := ao_ifF h (by decide)
      replace h := ao_ifF h (by decide)
      replace h := ao_ifT h rfl
      obtain ⟨n4, hn4, h⟩ := ao_bind h
      exact ao_le_tr (ao_le_nw _ _ _ _ _) (ih.2.2.2.2.1 r0 n4 r0 (ao_zr M n4) (ao_nw ρ n4 11 0 6) _ h)
    · intro r0 q0 q1 M ρ y h
      replace h := ao_ifF h (by decide)
      replace h := ao_ifF h (by decide)
      replace h := ao_ifF h (by decide)
      replace h := ao_ifF h (by decide)
      replace h := ao_ifT h rfl
      obtain ⟨p5, hp5, h⟩ := ao_bind h
      exact ao_le_tr (me_X1_init n q0 (1000 : Int32) M ρ hp5) (ih.2.2.2.2.2.1 r0 q0 q1 p5.1 p5.2 _ h)
    · intro r0 q0 q1 M ρ y h
      replace h := ao_ifF h (by decide)
      replace h := ao_ifF h (by decide)
      replace h := ao_ifF h (by decide)
      replace h := ao_ifF h (by decide)
      replace h := ao_ifF h (by decide)
      replace h := ao_ifT h rfl
      obtain ⟨-, h⟩ := ao_some h
      exact ao_le_tr (ao_le_r _ _ _ _) (ih.2.2.2.2.2.2 r0 M (ao_r ρ q1 1 (some q0)) _ h)
    · intro r0 M ρ y h
      replace h := ao_ifF h (by decide)
      replace h := ao_ifF h (by decide)
      replace h := ao_ifF h (by decide)
      replace h := ao_ifF h (by decide)
      replace h := ao_ifF h (by decide)
      replace h := ao_ifF h (by decide)
      replace h := ao_ifT h rfl
      obtain ⟨-, h⟩ := ao_some h
      replace h := ao_letD h rfl
      generalize (ao_u M r0 2 (-1 : Int32)) = M8 at h
      cases h
      exact ao_le_rf _
set_option maxRecDepth 100000 in
set_option maxHeartbeats 4000000 in
theorem wX4_init {Γ : ao_C} (d : Nat) (hd : 2 ≤ d) (MC MS : Nat) : ∀ n : Nat, (∀ (r0 : Nat) (M : ao_M) (ρ : ao_H) (y : ao_S), fX4_init n 0 r0 0 0 M ρ = some y → ao_W Γ uX4_init (ao_rm d MC MS) (ao_Q Γ (ao_QV y) MC MS) (ao_dc ρ y.2) (ao_ds ρ y.2) 0 [some (.ref (Γ.2.2.2 + r0))] [] (M, ρ)) ∧ (∀ (r0 : Nat) (q0 : Nat) (q1 : Nat) (M : ao_M) (ρ : ao_H) (y : ao_S), fX4_init n 8 r0 q0 q1 M ρ = some y → ao_W Γ uX4_init (ao_rm d MC MS) (ao_Q Γ (ao_QV y) MC MS) (ao_dc ρ y.2) (ao_ds ρ y.2) 8 [some (.ref (Γ.2.2.2 + r0))] [.ref (Γ.2.2.2 + q0), .ref (Γ.2.2.2 + q1)] (M, ρ)) ∧ (∀ (r0 : Nat) (q0 : Nat) (q1 : Nat) (M : ao_M) (ρ : ao_H) (y : ao_S), fX4_init n 12 r0 q0 q1 M ρ = some y → ao_W Γ uX4_init (ao_rm d MC MS) (ao_Q Γ (ao_QV y) MC MS) (ao_dc ρ y.2) (ao_ds ρ y.2) 12 [some (.ref (Γ.2.2.2 + r0))] [.ref (Γ.2.2.2 + q0), .ref (Γ.2.2.2 + q1)] (M, ρ)) ∧ (∀ (r0 : Nat) (M : ao_M) (ρ : ao_H) (y : ao_S), fX4_init n 15 r0 0 0 M ρ = some y → ao_W Γ uX4_init (ao_rm d MC MS) (ao_Q Γ (ao_QV y) MC MS) (ao_dc ρ y.2) (ao_ds ρ y.2) 15 [some (.ref (Γ.2.2.2 + r0))] [] (M, ρ)) ∧ (∀ (r0 : Nat) (q0 : Nat) (q1 : Nat) (M : ao_M) (ρ : ao_H) (y : ao_S), fX4_init n 19 r0 q0 q1 M ρ = some y → ao_W Γ uX4_init (ao_rm d MC MS) (ao_Q Γ (ao_QV y) MC MS) (ao_dc ρ y.2) (ao_ds ρ y.2) 19 [some (.ref (Γ.2.2.2 + r0))] [.ref (Γ.2.2.2 + q0), .ref (Γ.2.2.2 + q1)] (M, ρ)) ∧ (∀ (r0 : Nat) (q0 : Nat) (q1 : Nat) (M : ao_M) (ρ : ao_H) (y : ao_S), fX4_init n 26 r0 q0 q1 M ρ = some y → ao_W Γ uX4_init (ao_rm d MC MS) (ao_Q Γ (ao_QV y) MC MS) (ao_dc ρ y.2) (ao_ds ρ y.2) 26 [some (.ref (Γ.2.2.2 + r0))] [.ref (Γ.2.2.2 + q0), .ref (Γ.2.2.2 + q1)] (M, ρ)) ∧ (∀ (r0 : Nat) (M : ao_M) (ρ : ao_H) (y : ao_S), fX4_init n 29 r0 0 0 M ρ = some y → ao_W Γ uX4_init (ao_rm d MC MS) (ao_Q Γ (ao_QV y) MC MS) (ao_dc ρ y.2) (ao_ds ρ y.2) 29 [some (.ref (Γ.2.2.2 + r0))] [] (M, ρ)) := by
  intro n
  induction n with
  | zero => exact ⟨fun _ _ _ _ h => ao_no h, fun _ _ _ _ _ _ h => ao_no h, fun _ _ _ _ _ _ h => ao_no h, fun _ _ _ _ h => ao_no h, fun _ _ _ _ _ _ h => ao_no h, fun _ _ _ _ _ _ h => ao_no h, fun _ _ _ _ h => ao_no h⟩
  | succ n ih =>
    refine ⟨?_, ?_, ?_, ?_, ?_, ?_, ?_⟩
    · intro r0 M ρ y h
      replace h := ao_ifT h rfl
      refine ao_aload_n 0 dX4_init_0 rfl rfl ?_
      refine bi_obj dX4_init_1 loi_X4_3 (Nat.le_of_ble_eq_true rfl) (ao_cpR (by omega)) ?_
      refine ao_aload_n 0 dX4_init_4 rfl rfl ?_
      obtain ⟨n1, hn1, h⟩ := ao_bind h
      refine ba_new n1 9 (q := (RX9, TX9, 11)) dX4_init_5 rfl hn1 lnw_X4_9 (ao_dc_nw ((mX4_init n).2.1 r0 n1 r0 (ao_zr M n1) (ao_nw ρ n1 19 0 11) _ h)) ?_
      exact ih.2.1 r0 n1 r0 (ao_zr M n1) (ao_nw ρ n1 19 0 11) _ h
    · intro r0 q0 q1 M ρ y h
      replace h := ao_ifF h (by decide)
      replace h := ao_ifT h rfl
      refine ao_dup dX4_init_8 rfl ?_
      obtain ⟨p2, hp2, h⟩ := ao_bind h
      refine bi_callI q0 [] (aX9_init (d - 1) (by omega) n q0 M ρ hp2) dX4_init_9 lc_X4_11 li_X9_init rfl rfl rfl (Nat.le_of_ble_eq_true rfl) (ao_hR (by omega) (by decide)) (ao_leC (me_X9_init n q0 M ρ hp2) ((mX4_init n).2.2.1 r0 q0 q1 p2.1 p2.2 _ h)) (ao_leS (me_X9_init n q0 M ρ hp2) ((mX4_init n).2.2.1 r0 q0 q1 p2.1 p2.2 _ h)) ?_
      exact ih.2.2.1 r0 q0 q1 p2.1 p2.2 _ h
    · intro r0 q0 q1 M ρ y h
      replace h := ao_ifF h (by decide)
      replace h := ao_ifF h (by decide)
      replace h := ao_ifT h rfl
      obtain ⟨hk3, h⟩ := ao_some h
      refine ba_putR q1 4 0 (q := (RX4, TX4, 3)) dX4_init_12 rfl hk3 (Nat.le_of_ble_eq_true rfl) lf_X4_12 (Or.inr ⟨rfl, rfl⟩) rfl rfl rfl ?_
      exact ih.2.2.2.1 r0 M (ao_r ρ q1 0 (some q0)) _ h
    · intro r0 M ρ y h
      replace h := ao_ifF h (by decide)
      replace h := ao_ifF h (by decide)
      replace h := ao_ifF h (by decide)
      replace h := ao_ifT h rfl
      refine ao_aload_n 0 dX4_init_15 rfl rfl ?_
      obtain ⟨n4, hn4, h⟩ := ao_bind h
      refine ba_new n4 1 (q := (RX1, TX1, 6)) dX4_init_16 rfl hn4 lnw_X4_18 (ao_dc_nw ((mX4_init n).2.2.2.2.1 r0 n4 r0 (ao_zr M n4) (ao_nw ρ n4 11 0 6) _ h)) ?_
      exact ih.2.2.2.2.1 r0 n4 r0 (ao_zr M n4) (ao_nw ρ n4 11 0 6) _ h
    · intro r0 q0 q1 M ρ y h
      replace h := ao_ifF h (by decide)
      replace h := ao_ifF h (by decide)
      replace h := ao_ifF h (by decide)
      replace h := ao_ifF h (by decide)
      replace h := ao_ifT h rfl
      refine ao_dup dX4_init_19 rfl ?_
      refine ao_sipush (v := 1000) dX4_init_20 (by decide) ?_
      obtain ⟨p5, hp5, h⟩ := ao_bind h
      refine bi_callI q0 [.int (1000 : Int32)] (aX1_init (d - 1) (by omega) n q0 (1000 : Int32) M ρ hp5) dX4_init_23 lc_X4_20 li_X1_init rfl rfl rfl (Nat.le_of_ble_eq_true rfl) (ao_hR (by omega) (by decide)) (ao_leC (me_X1_init n q0 (1000 : Int32) M ρ hp5) ((mX4_init n).2.2.2.2.2.1 r0 q0 q1 p5.1 p5.2 _ h)) (ao_leS (me_X1_init n q0 (1000 : Int32) M ρ hp5) ((mX4_init n).2.2.2.2.2.1 r0 q0 q1 p5.1 p5.2 _ h)) ?_
      exact ih.2.2.2.2.2.1 r0 q0 q1 p5.1 p5.2 _ h
    · intro r0 q0 q1 M ρ y h
      replace h := ao_ifF h (by decide)
      replace h := ao_ifF h (by decide)
      replace h := ao_ifF h (by decide)
      replace h := ao_ifF h (by decide)
      replace h := ao_ifF h (by decide)
      replace h := ao_ifT h rfl
      obtain ⟨hk6, h⟩ := ao_some h
      refine ba_putR q1 4 1 (q := (RX4, TX4, 3)) dX4_init_26 rfl hk6 (Nat.le_of_ble_eq_true rfl) lf_X4_23 (Or.inr ⟨rfl, rfl⟩) rfl rfl rfl ?_
      exact ih.2.2.2.2.2.2 r0 M (ao_r ρ q1 1 (some q0)) _ h
    · intro r0 M ρ y h
      replace h := ao_ifF h (by decide)
      replace h := ao_ifF h (by decide)
      replace h := ao_ifF h (by decide)
      replace h := ao_ifF h (by decide)
      replace h := ao_ifF h (by decide)
      replace h := ao_ifF h (by decide)
      replace h := ao_ifT h rfl
      refine ao_aload_n 0 dX4_init_29 rfl rfl ?_
      refine ao_iconst (v := (-1)) dX4_init_30 (by decide) ?_
      obtain ⟨hk7, h⟩ := ao_some h
      refine an_putI r0 4 2 (q := (RX4, TX4, 3)) dX4_init_31 rfl hk7 (Nat.le_of_ble_eq_true rfl) lf_X4_27 rfl rfl rfl rfl (fun M8 hM8 => ?_)
      replace h := ao_letD h hM8
      cases h
      exact ao_return dX4_init_34 rfl ⟨rfl, rfl⟩
theorem me_X4_init (n : Nat) (r0 : Nat) (M : ao_M) (ρ : ao_H) {y : ao_S} (h : gX4_init n r0 M ρ = some y) : ao_le ρ y.2 := (mX4_init n).1 r0 M ρ y h
set_option maxRecDepth 100000 in
set_option maxHeartbeats 4000000 in
theorem aX4_init {Γ : ao_C} (d : Nat) (hd : 2 ≤ d) (n : Nat) (r0 : Nat) (M : ao_M) (ρ : ao_H) {y : ao_S} (h : gX4_init n r0 M ρ = some y) : ao_A Γ uX4_init d (ao_dc ρ y.2) (ao_ds ρ y.2) [.ref (Γ.2.2.2 + r0)] (M, ρ) (ao_QV y) := by
  refine ao_of (by decide) (ao_cat1 (Nat.le_of_ble_eq_true rfl)) (Nat.le_of_ble_eq_true rfl) ?_
  show ao_W Γ uX4_init (ao_rm d (ao_dc ρ y.2) (ao_ds ρ y.2)) (ao_Q Γ (ao_QV y) (ao_dc ρ y.2) (ao_ds ρ y.2)) (ao_dc ρ y.2) (ao_ds ρ y.2) 0 [some (.ref (Γ.2.2.2 + r0))] [] (M, ρ)
  exact (wX4_init d hd _ _ n).1 r0 M ρ y h

abbrev uX4_expect : ao_Mi := (yX4_expect, cX4_expect, 2, (some .boolean), [])
def gX4_expect (n : Nat) (r0 : Nat) (x1 : Int32) (M : ao_M) (ρ : ao_H) : Option (Int32 × ao_M) :=
  if ρ.2.1 r0 = 14 then
  (ρ.1 r0 0).bind fun j2 =>
  if ρ.2.1 j2 = 19 then
  if (M j2 8) = x1 then
    (gX9_advance n j2 M ρ).bind fun p5 =>
    some ((1 : Int32), p5)
  else
    (gX4_broken r0 M ρ).bind fun p6 =>
    if p6.1 = 0 ∨ p6.1 = 1 then
    some (p6.1, p6.2)
    else none
  else none
  else none
set_option maxRecDepth 100000 in
set_option maxHeartbeats 4000000 in
theorem aX4_expect {Γ : ao_C} (d : Nat) (hd : 1 ≤ d) (n : Nat) (r0 : Nat) (x1 : Int32) (M : ao_M) (ρ : ao_H) {y : Int32 × ao_M} (h : gX4_expect n r0 x1 M ρ = some y) : ao_A Γ uX4_expect d 0 0 [.ref (Γ.2.2.2 + r0), .int x1] (M, ρ) (ao_PI ρ y) := by
  refine ao_of (by decide) (ao_cat1 (Nat.le_of_ble_eq_true rfl)) (Nat.le_of_ble_eq_true rfl) ?_
  show ao_W Γ uX4_expect (ao_rm d 0 0) (ao_Q Γ (ao_PI ρ y) 0 0) 0 0 0 [some (.ref (Γ.2.2.2 + r0)), some (.int x1)] [] (M, ρ)
  unfold gX4_expect at h
  refine ao_aload_n 0 dX4_expect_0 rfl rfl ?_
  obtain ⟨hk1, h⟩ := ao_some h
  obtain ⟨j2, hj2, h⟩ := ao_bind h
  refine an_getR r0 4 0 (q := (RX4, TX4, 3)) dX4_expect_1 rfl hk1 (Nat.le_of_ble_eq_true rfl) rfl lf_X4_12 hj2 ?_
  obtain ⟨hk3, h⟩ := ao_some h
  refine an_getI j2 9 8 (q := (RX9, TX9, 11)) dX4_expect_4 rfl hk3 (Nat.le_of_ble_eq_true rfl) rfl lf_X4_42 ?_
  refine ao_iload_n 1 dX4_expect_7 rfl rfl ?_
  refine ao_icmp_eq 16 dX4_expect_8 (by decide) (fun c4 => ?_) (fun c4 => ?_)
  · replace h := ao_ifT h c4
    refine ao_aload_n 0 dX4_expect_16 rfl rfl ?_
    refine an_getR r0 4 0 (q := (RX4, TX4, 3)) dX4_expect_17 rfl hk1 (Nat.le_of_ble_eq_true rfl) rfl lf_X4_12 hj2 ?_
    obtain ⟨p5, hp5, h⟩ := ao_bind h
    refine an_callVv j2 9 (q := (RX9, TX9, 11)) [] (aX9_advance (d - 1) (by omega) _ j2 M ρ hp5) dX4_expect_20 lc_X4_52 li_X9_advance ls_X9_advance rfl hk3 rfl rfl (Nat.le_of_ble_eq_true rfl) (ao_hR (by omega) (by decide)) ?_
    refine ao_iconst (v := 1) dX4_expect_23 (by decide) ?_
    cases h
    exact ao_ireturn dX4_expect_24 rfl rfl ⟨rfl, rfl⟩
  · replace h := ao_ifF h c4
    refine ao_aload_n 0 dX4_expect_11 rfl rfl ?_
    obtain ⟨p6, hp6, h⟩ := ao_bind h
    refine an_callVi r0 4 (q := (RX4, TX4, 3)) [] (aX4_broken (d - 1) (by omega) r0 M ρ hp6) dX4_expect_12 lc_X4_45 li_X4_broken ls_X4_broken rfl hk1 rfl rfl (Nat.le_of_ble_eq_true rfl) (ao_hR (by omega) (by decide)) ?_
    obtain ⟨hz7, h⟩ := ao_some h
    cases h
    exact ao_ireturn dX4_expect_15 rfl (ao_nb hz7) ⟨rfl, rfl⟩

abbrev uX4_expectNested : ao_Mi := (yX4_expectNested, cX4_expectNested, 3, (some .boolean), [])
def gX4_expectNested (n : Nat) (r0 : Nat) (x1 : Int32) (x2 : Int32) (M : ao_M) (ρ : ao_H) : Option (Int32 × ao_M) :=
  if (10 : Int32) ≤ x2 then
    if ρ.2.1 r0 = 14 then
    (gX4_broken r0 M ρ).bind fun p3 =>
    if p3.1 = 0 ∨ p3.1 = 1 then
    some (p3.1, p3.2)
    else none
    else none
  else
    if ρ.2.1 r0 = 14 then
    (gX4_expect n r0 x1 M ρ).bind fun p6 =>
    if p6.1 = 0 ∨ p6.1 = 1 then
    some (p6.1, p6.2)
    else none
    else none
set_option maxRecDepth 100000 in
set_option maxHeartbeats 4000000 in
theorem aX4_expectNested {Γ : ao_C} (d : Nat) (hd : 2 ≤ d) (n : Nat) (r0 : Nat) (x1 : Int32) (x2 : Int32) (M : ao_M) (ρ : ao_H) {y : Int32 × ao_M} (h : gX4_expectNested n r0 x1 x2 M ρ = some y) : ao_A Γ uX4_expectNested d 0 0 [.ref (Γ.2.2.2 + r0), .int x1, .int x2] (M, ρ) (ao_PI ρ y) := by
  refine ao_of (by decide) (ao_cat1 (Nat.le_of_ble_eq_true rfl)) (Nat.le_of_ble_eq_true rfl) ?_
  show ao_W Γ uX4_expectNested (ao_rm d 0 0) (ao_Q Γ (ao_PI ρ y) 0 0) 0 0 0 [some (.ref (Γ.2.2.2 + r0)), some (.int x1), some (.int x2)] [] (M, ρ)
  unfold gX4_expectNested at h
  refine ao_iload_n 2 dX4_expectNested_0 rfl rfl ?_
  refine ao_bipush (v := 10) dX4_expectNested_1 (by decide) ?_
  refine ao_icmp_ge 14 dX4_expectNested_3 (by decide) (fun c1 => ?_) (fun c1 => ?_)
  · replace h := ao_ifT h c1
    refine ao_aload_n 0 dX4_expectNested_14 rfl rfl ?_
    obtain ⟨hk2, h⟩ := ao_some h
    obtain ⟨p3, hp3, h⟩ := ao_bind h
    refine an_callVi r0 4 (q := (RX4, TX4, 3)) [] (aX4_broken (d - 1) (by omega) r0 M ρ hp3) dX4_expectNested_15 lc_X4_45 li_X4_broken ls_X4_broken rfl hk2 rfl rfl (Nat.le_of_ble_eq_true rfl) (ao_hR (by omega) (by decide)) ?_
    obtain ⟨hz4, h⟩ := ao_some h
    cases h
    exact ao_ireturn dX4_expectNested_18 rfl (ao_nb hz4) ⟨rfl, rfl⟩
  · replace h := ao_ifF h c1
    refine ao_aload_n 0 dX4_expectNested_6 rfl rfl ?_
    refine ao_iload_n 1 dX4_expectNested_7 rfl rfl ?_
    obtain ⟨hk5, h⟩ := ao_some h
    obtain ⟨p6, hp6, h⟩ := ao_bind h
    refine an_callVi r0 4 (q := (RX4, TX4, 3)) [.int x1] (aX4_expect (d - 1) (by omega) _ r0 x1 M ρ hp6) dX4_expectNested_8 lc_X4_55 li_X4_expect ls_X4_expect rfl hk5 rfl rfl (Nat.le_of_ble_eq_true rfl) (ao_hR (by omega) (by decide)) ?_
    refine ao_goto 18 dX4_expectNested_11 (by decide) ?_
    obtain ⟨hz7, h⟩ := ao_some h
    cases h
    exact ao_ireturn dX4_expectNested_18 rfl (ao_nb hz7) ⟨rfl, rfl⟩

abbrev uX4_bareStatement : ao_Mi := (yX4_bareStatement, cX4_bareStatement, 3, (some .boolean), [])
def gX4_bareStatement (n : Nat) (r0 : Nat) (x1 : Int32) (x2 : Int32) (M : ao_M) (ρ : ao_H) : Option (Int32 × ao_M) :=
  if x2 = 0 then
    if ρ.2.1 r0 = 14 then
    (gX4_broken r0 M ρ).bind fun p12 =>
    if p12.1 = 0 ∨ p12.1 = 1 then
    some (p12.1, p12.2)
    else none
    else none
  else
    if ρ.2.1 r0 = 14 then
    (ρ.1 r0 0).bind fun j3 =>
    if ρ.2.1 j3 = 19 then
    (gX9_advance n j3 M ρ).bind fun p5 =>
    (ρ.1 r0 1).bind fun j6 =>
    if ρ.2.1 j6 = 11 then
    (gX1_add j6 x1 (0 : Int32) p5 ρ).bind fun p8 =>
    (gX4_expect n r0 (21 : Int32) p8.2 ρ).bind fun p9 =>
    if p9.1 = 0 ∨ p9.1 = 1 then
    some (p9.1, p9.2)
    else none
    else none
    else none
    else none
set_option maxRecDepth 100000 in
set_option maxHeartbeats 4000000 in
theorem aX4_bareStatement {Γ : ao_C} (d : Nat) (hd : 2 ≤ d) (n : Nat) (r0 : Nat) (x1 : Int32) (x2 : Int32) (M : ao_M) (ρ : ao_H) {y : Int32 × ao_M} (h : gX4_bareStatement n r0 x1 x2 M ρ = some y) : ao_A Γ uX4_bareStatement d 0 0 [.ref (Γ.2.2.2 + r0), .int x1, .int x2] (M, ρ) (ao_PI ρ y) := by
  refine ao_of (by decide) (ao_cat1 (Nat.le_of_ble_eq_true rfl)) (Nat.le_of_ble_eq_true rfl) ?_
  show ao_W Γ uX4_bareStatement (ao_rm d 0 0) (ao_Q Γ (ao_PI ρ y) 0 0) 0 0 0 [some (.ref (Γ.2.2.2 + r0)), some (.int x1), some (.int x2)] [] (M, ρ)
  unfold gX4_bareStatement at h
  refine ao_iload_n 2 dX4_bareStatement_0 rfl rfl ?_
  refine ao_if_ne 9 dX4_bareStatement_1 (by decide) (fun c1 => ?_) (fun c1 => ?_)
  · replace h := ao_ifF h c1
    refine ao_aload_n 0 dX4_bareStatement_9 rfl rfl ?_
    obtain ⟨hk2, h⟩ := ao_some h
    obtain ⟨j3, hj3, h⟩ := ao_bind h
    refine an_getR r0 4 0 (q := (RX4, TX4, 3)) dX4_bareStatement_10 rfl hk2 (Nat.le_of_ble_eq_true rfl) rfl lf_X4_12 hj3 ?_
    obtain ⟨hk4, h⟩ := ao_some h
    obtain ⟨p5, hp5, h⟩ := ao_bind h
    refine an_callVv j3 9 (q := (RX9, TX9, 11)) [] (aX9_advance (d - 1) (by omega) _ j3 M ρ hp5) dX4_bareStatement_13 lc_X4_52 li_X9_advance ls_X9_advance rfl hk4 rfl rfl (Nat.le_of_ble_eq_true rfl) (ao_hR (by omega) (by decide)) ?_
    refine ao_aload_n 0 dX4_bareStatement_16 rfl rfl ?_
    obtain ⟨j6, hj6, h⟩ := ao_bind h
    refine an_getR r0 4 1 (q := (RX4, TX4, 3)) dX4_bareStatement_17 rfl hk2 (Nat.le_of_ble_eq_true rfl) rfl lf_X4_23 hj6 ?_
    refine ao_iload_n 1 dX4_bareStatement_20 rfl rfl ?_
    refine ao_iconst (v := 0) dX4_bareStatement_21 (by decide) ?_
    obtain ⟨hk7, h⟩ := ao_some h
    obtain ⟨p8, hp8, h⟩ := ao_bind h
    refine an_callVi j6 1 (q := (RX1, TX1, 6)) [.int x1, .int (0 : Int32)] (aX1_add (d - 1) (by omega) j6 x1 (0 : Int32) p5 ρ hp8) dX4_bareStatement_22 lc_X4_96 li_X1_add ls_X1_add rfl hk7 rfl rfl (Nat.le_of_ble_eq_true rfl) (ao_hR (by omega) (by decide)) ?_
    refine ao_pop dX4_bareStatement_25 rfl ?_
    refine ao_aload_n 0 dX4_bareStatement_26 rfl rfl ?_
    refine ao_bipush (v := 21) dX4_bareStatement_27 (by decide) ?_
    obtain ⟨p9, hp9, h⟩ := ao_bind h
    refine an_callVi r0 4 (q := (RX4, TX4, 3)) [.int (21 : Int32)] (aX4_expect (d - 1) (by omega) _ r0 (21 : Int32) p8.2 ρ hp9) dX4_bareStatement_29 lc_X4_55 li_X4_expect ls_X4_expect rfl hk2 rfl rfl (Nat.le_of_ble_eq_true rfl) (ao_hR (by omega) (by decide)) ?_
    obtain ⟨hz10, h⟩ := ao_some h
    cases h
    exact ao_ireturn dX4_bareStatement_32 rfl (ao_nb hz10) ⟨rfl, rfl⟩
  · replace h := ao_ifT h c1
    refine ao_aload_n 0 dX4_bareStatement_4 rfl rfl ?_
    obtain ⟨hk11, h⟩ := ao_some h
    obtain ⟨p12, hp12, h⟩ := ao_bind h
    refine an_callVi r0 4 (q := (RX4, TX4, 3)) [] (aX4_broken (d - 1) (by omega) r0 M ρ hp12) dX4_bareStatement_5 lc_X4_45 li_X4_broken ls_X4_broken rfl hk11 rfl rfl (Nat.le_of_ble_eq_true rfl) (ao_hR (by omega) (by decide)) ?_
    obtain ⟨hz13, h⟩ := ao_some h
    cases h
    exact ao_ireturn dX4_bareStatement_8 rfl (ao_nb hz13) ⟨rfl, rfl⟩

abbrev uX4_leaf : ao_Mi := (yX4_leaf, cX4_leaf, 2, (some .boolean), [])
def gX4_leaf (n : Nat) (r0 : Nat) (x1 : Int32) (M : ao_M) (ρ : ao_H) : Option (Int32 × ao_M) :=
  if ρ.2.1 r0 = 14 then
  (ρ.1 r0 1).bind fun j2 =>
  (ρ.1 r0 0).bind fun j3 =>
  if ρ.2.1 j3 = 19 then
  if ρ.2.1 j2 = 11 then
  (gX1_add j2 x1 (M j3 10) M ρ).bind fun p6 =>
  (gX9_advance n j3 p6.2 ρ).bind fun p7 =>
  some ((1 : Int32), p7)
  else none
  else none
  else none
set_option maxRecDepth 100000 in
set_option maxHeartbeats 4000000 in
theorem aX4_leaf {Γ : ao_C} (d : Nat) (hd : 1 ≤ d) (n : Nat) (r0 : Nat) (x1 : Int32) (M : ao_M) (ρ : ao_H) {y : Int32 × ao_M} (h : gX4_leaf n r0 x1 M ρ = some y) : ao_A Γ uX4_leaf d 0 0 [.ref (Γ.2.2.2 + r0), .int x1] (M, ρ) (ao_PI ρ y) := by
  refine ao_of (by decide) (ao_cat1 (Nat.le_of_ble_eq_true rfl)) (Nat.le_of_ble_eq_true rfl) ?_
  show ao_W Γ uX4_leaf (ao_rm d 0 0) (ao_Q Γ (ao_PI ρ y) 0 0) 0 0 0 [some (.ref (Γ.2.2.2 + r0)), some (.int x1)] [] (M, ρ)
  unfold gX4_leaf at h
  refine ao_aload_n 0 dX4_leaf_0 rfl rfl ?_
  obtain ⟨hk1, h⟩ := ao_some h
  obtain ⟨j2, hj2, h⟩ := ao_bind h
  refine an_getR r0 4 1 (q := (RX4, TX4, 3)) dX4_leaf_1 rfl hk1 (Nat.le_of_ble_eq_true rfl) rfl lf_X4_23 hj2 ?_
  refine ao_iload_n 1 dX4_leaf_4 rfl rfl ?_
  refine ao_aload_n 0 dX4_leaf_5 rfl rfl ?_
  obtain ⟨j3, hj3, h⟩ := ao_bind h
  refine an_getR r0 4 0 (q := (RX4, TX4, 3)) dX4_leaf_6 rfl hk1 (Nat.le_of_ble_eq_true rfl) rfl lf_X4_12 hj3 ?_
  obtain ⟨hk4, h⟩ := ao_some h
  refine an_getI j3 9 10 (q := (RX9, TX9, 11)) dX4_leaf_9 rfl hk4 (Nat.le_of_ble_eq_true rfl) rfl lf_X4_90 ?_
  obtain ⟨hk5, h⟩ := ao_some h
  obtain ⟨p6, hp6, h⟩ := ao_bind h
  refine an_callVi j2 1 (q := (RX1, TX1, 6)) [.int x1, .int (M j3 10)] (aX1_add (d - 1) (by omega) j2 x1 (M j3 10) M ρ hp6) dX4_leaf_12 lc_X4_96 li_X1_add ls_X1_add rfl hk5 rfl rfl (Nat.le_of_ble_eq_true rfl) (ao_hR (by omega) (by decide)) ?_
  refine ao_pop dX4_leaf_15 rfl ?_
  refine ao_aload_n 0 dX4_leaf_16 rfl rfl ?_
  refine an_getR r0 4 0 (q := (RX4, TX4, 3)) dX4_leaf_17 rfl hk1 (Nat.le_of_ble_eq_true rfl) rfl lf_X4_12 hj3 ?_
  obtain ⟨p7, hp7, h⟩ := ao_bind h
  refine an_callVv j3 9 (q := (RX9, TX9, 11)) [] (aX9_advance (d - 1) (by omega) _ j3 p6.2 ρ hp7) dX4_leaf_20 lc_X4_52 li_X9_advance ls_X9_advance rfl hk4 rfl rfl (Nat.le_of_ble_eq_true rfl) (ao_hR (by omega) (by decide)) ?_
  refine ao_iconst (v := 1) dX4_leaf_23 (by decide) ?_
  cases h
  exact ao_ireturn dX4_leaf_24 rfl rfl ⟨rfl, rfl⟩

abbrev uX5_init : ao_Mi := (yX5_init, cX5_init, 1, none, [])
def fX5_init : Nat → Nat → Nat → Nat → Nat →  ao_M → ao_H → Option (ao_S)
  | 0, _, _, _, _, _, _ => none
  | n + 1, pc, r0, q0, q1, M, ρ =>
    if pc = 0 then
      (ρ.2.2.2.1).bind fun n1 =>
      if ¬ (26 : Int32) < 0 ∧ (26 : Int32).toNatClampNeg * 8 ≤ 536870912 then
      fX5_init n 9 r0 n1 r0 (ao_zr M n1) (ao_nw ρ n1 0 (26 : Int32).toNatClampNeg (26 : Int32).toNatClampNeg)
      else none
    else if pc = 9 then
      if ρ.2.1 q1 = 15 then
      fX5_init n 12 r0 0 0 M (ao_r ρ q1 0 (some q0))
      else none
    else if pc = 12 then
      (ρ.2.2.2.1).bind fun n4 =>
      if ¬ (26 : Int32) < 0 ∧ (26 : Int32).toNatClampNeg * 8 ≤ 536870912 then
      fX5_init n 17 r0 n4 r0 (ao_zr M n4) (ao_nw ρ n4 0 (26 : Int32).toNatClampNeg (26 : Int32).toNatClampNeg)
      else none
    else if pc = 17 then
      if ρ.2.1 q1 = 15 then
      fX5_init n 20 r0 0 0 M (ao_r ρ q1 1 (some q0))
      else none
    else if pc = 20 then
      (ρ.2.2.2.1).bind fun n7 =>
      if ¬ (26 : Int32) < 0 ∧ (26 : Int32).toNatClampNeg * 8 ≤ 536870912 then
      fX5_init n 25 r0 n7 r0 (ao_zr M n7) (ao_nw ρ n7 0 (26 : Int32).toNatClampNeg (26 : Int32).toNatClampNeg)
      else none
    else if pc = 25 then
      if ρ.2.1 q1 = 15 then
      fX5_init n 28 r0 0 0 M (ao_r ρ q1 2 (some q0))
      else none
    else if pc = 28 then
      (ρ.2.2.2.1).bind fun n10 =>
      if ¬ (26 : Int32) < 0 ∧ (26 : Int32).toNatClampNeg * 8 ≤ 536870912 then
      fX5_init n 33 r0 n10 r0 (ao_zr M n10) (ao_nw ρ n10 0 (26 : Int32).toNatClampNeg (26 : Int32).toNatClampNeg)
      else none
    else if pc = 33 then
      if ρ.2.1 q1 = 15 then
      fX5_init n 36 r0 0 0 M (ao_r ρ q1 3 (some q0))
      else none
    else if pc = 36 then
      (ρ.2.2.2.1).bind fun n13 =>
      if ¬ (26 : Int32) < 0 ∧ (26 : Int32).toNatClampNeg * 8 ≤ 536870912 then
      fX5_init n 41 r0 n13 r0 (ao_zr M n13) (ao_nw ρ n13 0 (26 : Int32).toNatClampNeg (26 : Int32).toNatClampNeg)
      else none
    else if pc = 41 then
      if ρ.2.1 q1 = 15 then
      fX5_init n 44 r0 0 0 M (ao_r ρ q1 5 (some q0))
      else none
    else if pc = 44 then
      if ρ.2.1 r0 = 15 then
      ao_let (ao_u M r0 9 (64 : Int32)) fun M17 =>
      (ρ.2.2.2.1).bind fun n18 =>
      if ¬ (64 : Int32) < 0 ∧ (64 : Int32).toNatClampNeg * 8 ≤ 536870912 then
      fX5_init n 55 r0 n18 r0 (ao_zr M17 n18) (ao_nw ρ n18 0 (64 : Int32).toNatClampNeg (64 : Int32).toNatClampNeg)
      else none
      else none
    else if pc = 55 then
      if ρ.2.1 q1 = 15 then
      fX5_init n 58 r0 0 0 M (ao_r ρ q1 6 (some q0))
      else none
    else if pc = 58 then
      (ρ.2.2.2.1).bind fun n21 =>
      if ¬ (64 : Int32) < 0 ∧ (64 : Int32).toNatClampNeg * 8 ≤ 536870912 then
      fX5_init n 63 r0 n21 r0 (ao_zr M n21) (ao_nw ρ n21 0 (64 : Int32).toNatClampNeg (64 : Int32).toNatClampNeg)
      else none
    else if pc = 63 then
      if ρ.2.1 q1 = 15 then
      fX5_init n 66 r0 0 0 M (ao_r ρ q1 7 (some q0))
      else none
    else if pc = 66 then
      (ρ.2.2.2.1).bind fun n24 =>
      if ¬ (64 : Int32) < 0 ∧ (64 : Int32).toNatClampNeg * 8 ≤ 536870912 then
      fX5_init n 71 r0 n24 r0 (ao_zr M n24) (ao_nw ρ n24 0 (64 : Int32).toNatClampNeg (64 : Int32).toNatClampNeg)
      else none
    else if pc = 71 then
      if ρ.2.1 q1 = 15 then
      fX5_init n 74 r0 0 0 M (ao_r ρ q1 8 (some q0))
      else none
    else if pc = 74 then
      if ρ.2.1 r0 = 15 then
      (ρ.1 r0 2).bind fun j28 =>
      (gJ7_fill_53178 n j28 (-1 : Int32) M ρ).bind fun p29 =>
      (ρ.1 r0 5).bind fun j30 =>
      (gJ7_fill_53178 n j30 (-1 : Int32) p29 ρ).bind fun p31 =>
      some (p31, ρ)
      else none
    else none
def gX5_init (n : Nat) (r0 : Nat) (M : ao_M) (ρ : ao_H) : Option (ao_S) := fX5_init n 0 r0 0 0 M ρ
set_option maxRecDepth 100000 in
set_option maxHeartbeats 4000000 in
theorem mX5_init : ∀ n : Nat, (∀ (r0 : Nat) (M : ao_M) (ρ : ao_H) (y : ao_S), fX5_init n 0 r0 0 0 M ρ = some y → ao_le ρ y.2) ∧ (∀ (r0 : Nat) (q0 : Nat) (q1 : Nat) (M : ao_M) (ρ : ao_H) (y : ao_S), fX5_init n 9 r0 q0 q1 M ρ = some y → ao_le ρ y.2) ∧ (∀ (r0 : Nat) (M : ao_M) (ρ : ao_H) (y : ao_S), fX5_init n 12 r0 0 0 M ρ = some y → ao_le ρ y.2) ∧ (∀ (r0 : Nat) (q0 : Nat) (q1 : Nat) (M : ao_M) (ρ : ao_H) (y : ao_S), fX5_init n 17 r0 q0 q1 M ρ = some y → ao_le ρ y.2) ∧ (∀ (r0 : Nat) (M : ao_M) (ρ : ao_H) (y : ao_S), fX5_init n 20 r0 0 0 M ρ = some y → ao_le ρ y.2) ∧ (∀ (r0 : Nat) (q0 : Nat) (q1 : Nat) (M : ao_M) (ρ : ao_H) (y : ao_S), fX5_init n 25 r0 q0 q1 M ρ = some y → ao_le ρ y.2) ∧ (∀ (r0 : Nat) (M : ao_M) (ρ : ao_H) (y : ao_S), fX5_init n 28 r0 0 0 M ρ = some y → ao_le ρ y.2) ∧ (∀ (r0 : Nat) (q0 : Nat) (q1 : Nat) (M : ao_M) (ρ : ao_H) (y : ao_S), fX5_init n 33 r0 q0 q1 M ρ = some y → ao_le ρ y.2) ∧ (∀ (r0 : Nat) (M : ao_M) (ρ : ao_H) (y : ao_S), fX5_init n 36 r0 0 0 M ρ = some y → ao_le ρ y.2) ∧ (∀ (r0 : Nat) (q0 : Nat) (q1 : Nat) (M : ao_M) (ρ : ao_H) (y : ao_S), fX5_init n 41 r0 q0 q1 M ρ = some y → ao_le ρ y.2) ∧ (∀ (r0 : Nat) (M : ao_M) (ρ : ao_H) (y : ao_S), fX5_init n 44 r0 0 0 M ρ = some y → ao_le ρ y.2) ∧ (∀ (r0 : Nat) (q0 : Nat) (q1 : Nat) (M : ao_M) (ρ : ao_H) (y : ao_S), fX5_init n 55 r0 q0 q1 M ρ = some y → ao_le ρ y.2) ∧ (∀ (r0 : Nat) (M : ao_M) (ρ : ao_H) (y : ao_S), fX5_init n 58 r0 0 0 M ρ = some y → ao_le ρ y.2) ∧ (∀ (r0 : Nat) (q0 : Nat) (q1 : Nat) (M : ao_M) (ρ : ao_H) (y : ao_S), fX5_init n 63 r0 q0 q1 M ρ = some y → ao_le ρ y.2) ∧ (∀ (r0 : Nat) (M : ao_M) (ρ : ao_H) (y : ao_S), fX5_init n 66 r0 0 0 M ρ = some y → ao_le ρ y.2) ∧ (∀ (r0 : Nat) (q0 : Nat) (q1 : Nat) (M : ao_M) (ρ : ao_H) (y : ao_S), fX5_init n 71 r0 q0 q1 M ρ = some y → ao_le ρ y.2) ∧ (∀ (r0 : Nat) (M : ao_M) (ρ : ao_H) (y : ao_S), fX5_init n 74 r0 0 0 M ρ = some y → ao_le ρ y.2) := by
  intro n
  induction n with
  | zero => exact ⟨fun _ _ _ _ h => ao_no h, fun _ _ _ _ _ _ h => ao_no h, fun _ _ _ _ h => ao_no h, fun _ _ _ _ _ _ h => ao_no h, fun _ _ _ _ h => ao_no h, fun _ _ _ _ _ _ h => ao_no h, fun _ _ _ _ h => ao_no h, fun _ _ _ _ _ _ h => ao_no h, fun _ _ _ _ h => ao_no h, fun _ _ _ _ _ _ h => ao_no h, fun _ _ _ _ h => ao_no h, fun _ _ _ _ _ _ h => ao_no h, fun _ _ _ _ h => ao_no h, fun _ _ _ _ _ _ h => ao_no h, fun _ _ _ _ h => ao_no h, fun _ _ _ _ _ _ h => ao_no h, fun _ _ _ _ h => ao_no h⟩
  | succ n ih =>
    refine ⟨?_, ?_, ?_, ?_, ?_, ?_, ?_, ?_, ?_, ?_, ?_, ?_, ?_, ?_, ?_, ?_, ?_⟩
    · intro r0 M ρ y h
      replace h := ao_ifT h rfl
      obtain ⟨n1, hn1, h⟩ := ao_bind h
      obtain ⟨-, h⟩ := ao_some h
      exact ao_le_tr (ao_le_nw _ _ _ _ _) (ih.2.1 r0 n1 r0 (ao_zr M n1) (ao_nw ρ n1 0 (26 : Int32).toNatClampNeg (26 : Int32).toNatClampNeg) _ h)
    · intro r0 q0 q1 M ρ y h
      replace h := ao_ifF h (by decide)
      replace h := ao_ifT h rfl
      obtain ⟨-, h⟩ := ao_some h
      exact ao_le_tr (ao_le_r _ _ _ _) (ih.2.2.1 r0 M (ao_r ρ q1 0 (some q0)) _ h)
    · intro r0 M ρ y h
      replace h := ao_ifF h (by decide)
      replace h := ao_ifF h (by decide)
      replace h := ao_ifT h rfl
      obtain ⟨n4, hn4, h⟩ := ao_bind h
      obtain ⟨-, h⟩ := ao_some h
      exact ao_le_tr (ao_le_nw _ _ _ _ _) (ih.2.2.2.1 r0 n4 r0 (ao_zr M n4) (ao_nw ρ n4 0 (26 : Int32).toNatClampNeg (26 : Int32).toNatClampNeg) _ h)
    · intro r0 q0 q1 M ρ y h
      replace h := ao_ifF h (by decide)
      replace h := ao_ifF h (by decide)
      replace h := ao_ifF h (by decide)
      replace h := ao_ifT h rfl
      obtain ⟨-, h⟩ := ao_some h
      exact ao_le_tr (ao_le_r _ _ _ _) (ih.2.2.2.2.1 r0 M (ao_r ρ q1 1 (some q0)) _ h)
    · intro r0 M ρ y h
      replace h := ao_ifF h (by decide)
      replace h := ao_ifF h (by decide)
      replace h := ao_ifF h (by decide)
      replace h := ao_ifF h (by decide)
      replace h := ao_ifT h rfl
      obtain ⟨n7, hn7, h⟩ := ao_bind h
      obtain ⟨-, h⟩ := ao_some h
      exact ao_le_tr (ao_le_nw _ _ _ _ _) (ih.2.2.2.2.2.1 r0 n7 r0 (ao_zr M n7) (ao_nw ρ n7 0 (26 : Int32).toNatClampNeg (26 : Int32).toNatClampNeg) _ h)
    · intro r0 q0 q1 M ρ y h
      replace h := ao_ifF h (by decide)
      replace h := ao_ifF h (by decide)
      replace h := ao_ifF h (by decide)
      replace h := ao_ifF h (by decide)
      replace h := ao_ifF h (by decide)
      replace h := ao_ifT h rfl
      obtain ⟨-, h⟩ := ao_some h
      exact ao_le_tr (ao_le_r _ _ _ _) (ih.2.2.2.2.2.2.1 r0 M (ao_r ρ q1 2 (some q0)) _ h)
    · intro r0 M ρ y h
      replace h := ao_ifF h (by decide)
      replace h := ao_ifF h (by decide)
      replace h := ao_ifF h (by decide)
      replace h := ao_ifF h (by decide)
      replace h := ao_ifF h (by decide)
      replace h := ao_ifF h (by decide)
      replace h := ao_ifT h rfl
      obtain ⟨n10, hn10, h⟩ := ao_bind h
      obtain ⟨-, h⟩ := ao_some h
      exact ao_le_tr (ao_le_nw _ _ _ _ _) (ih.2.2.2.2.2.2.2.1 r0 n10 r0 (ao_zr M n10) (ao_nw ρ n10 0 (26 : Int32).toNatClampNeg (26 : Int32).toNatClampNeg) _ h)
    · intro r0 q0 q1 M ρ y h
      replace h := ao_ifF h (by decide)
      replace h := ao_ifF h (by decide)
      replace h := ao_ifF h (by decide)
      replace h := ao_ifF h (by decide)
      replace h := ao_ifF h (by decide)
      replace h := ao_ifF h (by decide)
      replace h := ao_ifF h (by decide)
      replace h := ao_ifT h rfl
      obtain ⟨-, h⟩ := ao_some h
      exact ao_le_tr (ao_le_r _ _ _ _) (ih.2.2.2.2.2.2.2.2.1 r0 M (ao_r ρ q1 3 (some q0)) _ h)
    · intro r0 M ρ y h
      replace h := ao_ifF h (by decide)
      replace h := ao_ifF h (by decide)
      replace h := ao_ifF h (by decide)
      replace h := ao_ifF h (by decide)
      replace h := ao_ifF h (by decide)
      replace h := ao_ifF h (by decide)
      replace h := ao_ifF h (by decide)
      replace h := ao_ifF h (by decide)
      replace h := ao_ifT h rfl
      obtain ⟨n13, hn13, h⟩ := ao_bind h
      obtain ⟨-, h⟩ := ao_some h
      exact ao_le_tr (ao_le_nw _ _ _ _ _) (ih.2.2.2.2.2.2.2.2.2.1 r0 n13 r0 (ao_zr M n13) (ao_nw ρ n13 0 (26 : Int32).toNatClampNeg (26 : Int32).toNatClampNeg) _ h)
    · intro r0 q0 q1 M ρ y h
      replace h := ao_ifF h (by decide)
      replace h := ao_ifF h (by decide)
      replace h := ao_ifF h (by decide)
      replace h := ao_ifF h (by decide)
      replace h := ao_ifF h (by decide)
      replace h := ao_ifF h (by decide)
      replace h := ao_ifF h (by decide)
      replace h := ao_ifF h (by decide)
      replace h := ao_ifF h (by decide)
      replace h := ao_ifT h rfl
      obtain ⟨-, h⟩ := ao_some h
      exact ao_le_tr (ao_le_r _ _ _ _) (ih.2.2.2.2.2.2.2.2.2.2.1 r0 M (ao_r ρ q1 5 (some q0)) _ h)
    · intro r0 M ρ y h
      replace h := ao_ifF h (by decide)
      replace h := ao_ifF h (by decide)
      replace h := ao_ifF h (by decide)
      replace h := ao_ifF h (by decide)
      replace h := ao_ifF h (by decide)
      replace h := ao_ifF h (by decide)
      replace h := ao_ifF h (by decide)
      replace h := ao_ifF h (by decide)
      replace h := ao_ifF h (by decide)
      replace h := ao_ifF h (by decide)
      replace h := ao_ifT h rfl
      obtain ⟨-, h⟩ := ao_some h
      replace h := ao_letD h rfl
      generalize (ao_u M r0 9 (64 : Int32)) = M17 at h
      obtain ⟨n18, hn18, h⟩ := ao_bind h
      obtain ⟨-, h⟩ := ao_some h
      exact ao_le_tr (ao_le_nw _ _ _ _ _) (ih.2.2.2.2.2.2.2.2.2.2.2.1 r0 n18 r0 (ao_zr M17 n18) (ao_nw ρ n18 0 (64 : Int32).toNatClampNeg (64 : Int32).toNatClampNeg) _ h)
    · intro r0 q0 q1 M ρ y h
      replace h := ao_ifF h (by decide)
      replace h := ao_ifF h (by decide)
      replace h := ao_ifF h (by decide)
      replace h := ao_ifF h (by decide)
      replace h := ao_ifF h (by decide)
      replace h := ao_ifF h (by decide)
      replace h := ao_ifF h (by decide)
      replace h := ao_ifF h (by decide)
      replace h := ao_ifF h (by decide)
      replace h := ao_ifF h (by decide)
      replace h := ao_ifF h (by decide)
      replace h := ao_ifT h rfl
      obtain ⟨-, h⟩ := ao_some h
      exact ao_le_tr (ao_le_r _ _ _ _) (ih.2.2.2.2.2.2.2.2.2.2.2.2.1 r0 M (ao_r ρ q1 6 (some q0)) _ h)
    · intro r0 M ρ y h
      replace h := ao_ifF h (by decide)
      replace h := ao_ifF h (by decide)
      replace h := ao_ifF h (by decide)
      replace h := ao_ifF h (by decide)
      replace h := ao_ifF h (by decide)
      replace h := ao_ifF h (by decide)
      replace h := ao_ifF h (by decide)
      replace h := ao_ifF h (by decide)
      replace h := ao_ifF h (by decide)
      replace h := ao_ifF h (by decide)
      replace h := ao_ifF h (by decide)
      replace h := ao_ifF h (by decide)
      replace h := ao_ifT h rfl
      obtain ⟨n21, hn21, h⟩ := ao_bind h
      obtain ⟨-, h⟩ := ao_some h
      exact ao_le_tr (ao_le_nw _ _ _ _ _) (ih.2.2.2.2.2.2.2.2.2.2.2.2.2.1 r0 n21 r0 (ao_zr M n21) (ao_nw ρ n21 0 (64 : Int32).toNatClampNeg (64 : Int32).toNatClampNeg) _ h)
    · intro r0 q0 q1 M ρ y h
      replace h := ao_ifF h (by decide)
      replace h := ao_ifF h (by decide)
      replace h := ao_ifF h (by decide)
      replace h := ao_ifF h (by decide)
      replace h := ao_ifF h (by decide)
      replace h := ao_ifF h (by decide)
      replace h := ao_ifF h (by decide)
      replace h := ao_ifF h (by decide)
      replace h := ao_ifF h (by decide)
      replace h := ao_ifF h (by decide)
      replace h := ao_ifF h (by decide)
      replace h := ao_ifF h (by decide)
      replace h := ao_ifF h (by decide)
      replace h := ao_ifT h rfl
      obtain ⟨-, h⟩ := ao_some h
      exact ao_le_tr (ao_le_r _ _ _ _) (ih.2.2.2.2.2.2.2.2.2.2.2.2.2.2.1 r0 M (ao_r ρ q1 7 (some q0)) _ h)
    · intro r0 M ρ y h
      replace h := ao_ifF h (by decide)
      replace h := ao_ifF h (by decide)
      replace h := ao_ifF h (by decide)
      replace h := ao_ifF h (by decide)
      replace h := ao_ifF h (by decide)
      replace h := ao_ifF h (by decide)
      replace h := ao_ifF h (by decide)
      replace h := ao_ifF h (by decide)
      replace h := ao_ifF h (by decide)
      replace h := ao_ifF h (by decide)
      replace h := ao_ifF h (by decide)
      replace h := ao_ifF h (by decide)
      replace h := ao_ifF h (by decide)
      replace h := ao_ifF h (by decide)
      replace h := ao_ifT h rfl
      obtain ⟨n24, hn24, h⟩ := ao_bind h
      obtain ⟨-, h⟩ := ao_some h
      exact ao_le_tr (ao_le_nw _ _ _ _ _) (ih.2.2.2.2.2.2.2.2.2.2.2.2.2.2.2.1 r0 n24 r0 (ao_zr M n24) (ao_nw ρ n24 0 (64 : Int32).toNatClampNeg (64 : Int32).toNatClampNeg) _ h)
    · intro r0 q0 q1 M ρ y h
      replace h := ao_ifF h (by decide)
      replace h := ao_ifF h (by decide)
      replace h := ao_ifF h (by decide)
      replace h := ao_ifF h (by decide)
      replace h := ao_ifF h (by decide)
      replace h := ao_ifF h (by decide)
      replace h := ao_ifF h (by decide)
      replace h := ao_ifF h (by decide)
      replace h := ao_ifF h (by decide)
      replace h := ao_ifF h (by decide)
      replace h := ao_ifF h (by decide)
      replace h := ao_ifF h (by decide)
      replace h := ao_ifF h (by decide)
      replace h := ao_ifF h (by decide)
      replace h := ao_ifF h (by decide)
      replace h := ao_ifT h rfl
      obtain ⟨-, h⟩ := ao_some h
      exact ao_le_tr (ao_le_r _ _ _ _) (ih.2.2.2.2.2.2.2.2.2.2.2.2.2.2.2.2 r0 M (ao_r ρ q1 8 (some q0)) _ h)
    · intro r0 M ρ y h
      replace h := ao_ifF h (by decide)
      replace h := ao_ifF h (by decide)
      replace h := ao_ifF h (by decide)
      replace h := ao_ifF h (by decide)
      replace h := ao_ifF h (by decide)
      replace h := ao_ifF h (by decide)
      replace h := ao_ifF h (by decide)
      replace h := ao_ifF h (by decide)
      replace h := ao_ifF h (by decide)
      replace h := ao_ifF h (by decide)
      replace h := ao_ifF h (by decide)
      replace h := ao_ifF h (by decide)
      replace h := ao_ifF h (by decide)
      replace h := ao_ifF h (by decide)
      replace h := ao_ifF h (by decide)
      replace h := ao_ifF h (by decide)
      replace h := ao_ifT h rfl
      obtain ⟨-, h⟩ := ao_some h
      obtain ⟨j28, hj28, h⟩ := ao_bind h
      obtain ⟨p29, hp29, h⟩ := ao_bind h
      obtain ⟨j30, hj30, h⟩ := ao_bind h
      obtain ⟨p31, hp31, h⟩ := ao_bind h
      cases h
      exact ao_le_rf _
set_option maxRecDepth 100000 in
set_option maxHeartbeats 4000000 in
theorem wX5_init {Γ : ao_C} (d : Nat) (hd : 1 ≤ d) (MC MS : Nat) : ∀ n : Nat, (∀ (r0 : Nat) (M : ao_M) (ρ : ao_H) (y : ao_S), fX5_init n 0 r0 0 0 M ρ = some y → ao_W Γ uX5_init (ao_rm d MC MS) (ao_Q Γ (ao_QV y) MC MS) (ao_dc ρ y.2) (ao_ds ρ y.2) 0 [some (.ref (Γ.2.2.2 + r0))] [] (M, ρ)) ∧ (∀ (r0 : Nat) (q0 : Nat) (q1 : Nat) (M : ao_M) (ρ : ao_H) (y : ao_S), fX5_init n 9 r0 q0 q1 M ρ = some y → ao_W Γ uX5_init (ao_rm d MC MS) (ao_Q Γ (ao_QV y) MC MS) (ao_dc ρ y.2) (ao_ds ρ y.2) 9 [some (.ref (Γ.2.2.2 + r0))] [.ref (Γ.2.2.2 + q0), .ref (Γ.2.2.2 + q1)] (M, ρ)) ∧ (∀ (r0 : Nat) (M : ao_M) (ρ : ao_H) (y : ao_S), fX5_init n 12 r0 0 0 M ρ = some y → ao_W Γ uX5_init (ao_rm d MC MS) (ao_Q Γ (ao_QV y) MC MS) (ao_dc ρ y.2) (ao_ds ρ y.2) 12 [some (.ref (Γ.2.2.2 + r0))] [] (M, ρ)) ∧ (∀ (r0 : Nat) (q0 : Nat) (q1 : Nat) (M : ao_M) (ρ : ao_H) (y : ao_S), fX5_init n 17 r0 q0 q1 M ρ = some y → ao_W Γ uX5_init (ao_rm d MC MS) (ao_Q Γ (ao_QV y) MC MS) (ao_dc ρ y.2) (ao_ds ρ y.2) 17 [some (.ref (Γ.2.2.2 + r0))] [.ref (Γ.2.2.2 + q0), .ref (Γ.2.2.2 + q1)] (M, ρ)) ∧ (∀ (r0 : Nat) (M : ao_M) (ρ : ao_H) (y : ao_S), fX5_init n 20 r0 0 0 M ρ = some y → ao_W Γ uX5_init (ao_rm d MC MS) (ao_Q Γ (ao_QV y) MC MS) (ao_dc ρ y.2) (ao_ds ρ y.2) 20 [some (.ref (Γ.2.2.2 + r0))] [] (M, ρ)) ∧ (∀ (r0 : Nat) (q0 : Nat) (q1 : Nat) (M : ao_M) (ρ : ao_H) (y : ao_S), fX5_init n 25 r0 q0 q1 M ρ = some y → ao_W Γ uX5_init (ao_rm d MC MS) (ao_Q Γ (ao_QV y) MC MS) (ao_dc ρ y.2) (ao_ds ρ y.2) 25 [some (.ref (Γ.2.2.2 + r0))] [.ref (Γ.2.2.2 + q0), .ref (Γ.2.2.2 + q1)] (M, ρ)) ∧ (∀ (r0 : Nat) (M : ao_M) (ρ : ao_H) (y : ao_S), fX5_init n 28 r0 0 0 M ρ = some y → ao_W Γ uX5_init (ao_rm d MC MS) (ao_Q Γ (ao_QV y) MC MS) (ao_dc ρ y.2) (ao_ds ρ y.2) 28 [some (.ref (Γ.2.2.2 + r0))] [] (M, ρ)) ∧ (∀ (r0 : Nat) (q0 : Nat) (q1 : Nat) (M : ao_M) (ρ : ao_H) (y : ao_S), fX5_init n 33 r0 q0 q1 M ρ = some y → ao_W Γ uX5_init (ao_rm d MC MS) (ao_Q Γ (ao_QV y) MC MS) (ao_dc ρ y.2) (ao_ds ρ y.2) 33 [some (.ref (Γ.2.2.2 + r0))] [.ref (Γ.2.2.2 + q0), .ref (Γ.2.2.2 + q1)] (M, ρ)) ∧ (∀ (r0 : Nat) (M : ao_M) (ρ : ao_H) (y : ao_S), fX5_init n 36 r0 0 0 M ρ = some y → ao_W Γ uX5_init (ao_rm d MC MS) (ao_Q Γ (ao_QV y) MC MS) (ao_dc ρ y.2) (ao_ds ρ y.2) 36 [some (.ref (Γ.2.2.2 + r0))] [] (M, ρ)) ∧ (∀ (r0 : Nat) (q0 : Nat) (q1 : Nat) (M : ao_M) (ρ : ao_H) (y : ao_S), fX5_init n 41 r0 q0 q1 M ρ = some y → ao_W Γ uX5_init (ao_rm d MC MS) (ao_Q Γ (ao_QV y) MC MS) (ao_dc ρ y.2) (ao_ds ρ y.2) 41 [some (.ref (Γ.2.2.2 + r0))] [.ref (Γ.2.2.2 + q0), .ref (Γ.2.2.2 + q1)] (M, ρ)) ∧ (∀ (r0 : Nat) (M : ao_M) (ρ : ao_H) (y : ao_S), fX5_init n 44 r0 0 0 M ρ = some y → ao_W Γ uX5_init (ao_rm d MC MS) (ao_Q Γ (ao_QV y) MC MS) (ao_dc ρ y.2) (ao_ds ρ y.2) 44 [some (.ref (Γ.2.2.2 + r0))] [] (M, ρ)) ∧ (∀ (r0 : Nat) (q0 : Nat) (q1 : Nat) (M : ao_M) (ρ : ao_H) (y : ao_S), fX5_init n 55 r0 q0 q1 M ρ = some y → ao_W Γ uX5_init (ao_rm d MC MS) (ao_Q Γ (ao_QV y) MC MS) (ao_dc ρ y.2) (ao_ds ρ y.2) 55 [some (.ref (Γ.2.2.2 + r0))] [.ref (Γ.2.2.2 + q0), .ref (Γ.2.2.2 + q1)] (M, ρ)) ∧ (∀ (r0 : Nat) (M : ao_M) (ρ : ao_H) (y : ao_S), fX5_init n 58 r0 0 0 M ρ = some y → ao_W Γ uX5_init (ao_rm d MC MS) (ao_Q Γ (ao_QV y) MC MS) (ao_dc ρ y.2) (ao_ds ρ y.2) 58 [some (.ref (Γ.2.2.2 + r0))] [] (M, ρ)) ∧ (∀ (r0 : Nat) (q0 : Nat) (q1 : Nat) (M : ao_M) (ρ : ao_H) (y : ao_S), fX5_init n 63 r0 q0 q1 M ρ = some y → ao_W Γ uX5_init (ao_rm d MC MS) (ao_Q Γ (ao_QV y) MC MS) (ao_dc ρ y.2) (ao_ds ρ y.2) 63 [some (.ref (Γ.2.2.2 + r0))] [.ref (Γ.2.2.2 + q0), .ref (Γ.2.2.2 + q1)] (M, ρ)) ∧ (∀ (r0 : Nat) (M : ao_M) (ρ : ao_H) (y : ao_S), fX5_init n 66 r0 0 0 M ρ = some y → ao_W Γ uX5_init (ao_rm d MC MS) (ao_Q Γ (ao_QV y) MC MS) (ao_dc ρ y.2) (ao_ds ρ y.2) 66 [some (.ref (Γ.2.2.2 + r0))] [] (M, ρ)) ∧ (∀ (r0 : Nat) (q0 : Nat) (q1 : Nat) (M : ao_M) (ρ : ao_H) (y : ao_S), fX5_init n 71 r0 q0 q1 M ρ = some y → ao_W Γ uX5_init (ao_rm d MC MS) (ao_Q Γ (ao_QV y) MC MS) (ao_dc ρ y.2) (ao_ds ρ y.2) 71 [some (.ref (Γ.2.2.2 + r0))] [.ref (Γ.2.2.2 + q0), .ref (Γ.2.2.2 + q1)] (M, ρ)) ∧ (∀ (r0 : Nat) (M : ao_M) (ρ : ao_H) (y : ao_S), fX5_init n 74 r0 0 0 M ρ = some y → ao_W Γ uX5_init (ao_rm d MC MS) (ao_Q Γ (ao_QV y) MC MS) (ao_dc ρ y.2) (ao_ds ρ y.2) 74 [some (.ref (Γ.2.2.2 + r0))] [] (M, ρ)) := by
  intro n
  induction n with
  | zero => exact ⟨fun _ _ _ _ h => ao_no h, fun _ _ _ _ _ _ h => ao_no h, fun _ _ _ _ h => ao_no h, fun _ _ _ _ _ _ h => ao_no h, fun _ _ _ _ h => ao_no h, fun _ _ _ _ _ _ h => ao_no h, fun _ _ _ _ h => ao_no h, fun _ _ _ _ _ _ h => ao_no h, fun _ _ _ _ h => ao_no h, fun _ _ _ _ _ _ h => ao_no h, fun _ _ _ _ h => ao_no h, fun _ _ _ _ _ _ h => ao_no h, fun _ _ _ _ h => ao_no h, fun _ _ _ _ _ _ h => ao_no h, fun _ _ _ _ h => ao_no h, fun _ _ _ _ _ _ h => ao_no h, fun _ _ _ _ h => ao_no h⟩
  | succ n ih =>
    refine ⟨?_, ?_, ?_, ?_, ?_, ?_, ?_, ?_, ?_, ?_, ?_, ?_, ?_, ?_, ?_, ?_, ?_⟩
    · intro r0 M ρ y h
      replace h := ao_ifT h rfl
      refine ao_aload_n 0 dX5_init_0 rfl rfl ?_
      refine bi_obj dX5_init_1 loi_X5_3 (Nat.le_of_ble_eq_true rfl) (ao_cpR (by omega)) ?_
      refine ao_aload_n 0 dX5_init_4 rfl rfl ?_
      refine ao_bipush (v := 26) dX5_init_5 (by decide) ?_
      obtain ⟨n1, hn1, h⟩ := ao_bind h
      obtain ⟨hb2, h⟩ := ao_some h
      refine ba_newa n1 0 dX5_init_7 rfl (by decide) hn1 lna_0 hb2.1 hb2.2 (ao_dc_nw ((mX5_init n).2.1 r0 n1 r0 (ao_zr M n1) (ao_nw ρ n1 0 (26 : Int32).toNatClampNeg (26 : Int32).toNatClampNeg) _ h)) ?_
      exact ih.2.1 r0 n1 r0 (ao_zr M n1) (ao_nw ρ n1 0 (26 : Int32).toNatClampNeg (26 : Int32).toNatClampNeg) _ h
    · intro r0 q0 q1 M ρ y h
      replace h := ao_ifF h (by decide)
      replace h := ao_ifT h rfl
      obtain ⟨hk3, h⟩ := ao_some h
      refine ba_putR q1 5 0 (q := (RX5, TX5, 11)) dX5_init_9 rfl hk3 (Nat.le_of_ble_eq_true rfl) lf_X5_9 (Or.inr ⟨rfl, rfl⟩) rfl rfl rfl ?_
      exact ih.2.2.1 r0 M (ao_r ρ q1 0 (some q0)) _ h
    · intro r0 M ρ y h
      replace h := ao_ifF h (by decide)
      replace h := ao_ifF h (by decide)
      replace h := ao_ifT h rfl
      refine ao_aload_n 0 dX5_init_12 rfl rfl ?_
      refine ao_bipush (v := 26) dX5_init_13 (by decide) ?_
      obtain ⟨n4, hn4, h⟩ := ao_bind h
      obtain ⟨hb5, h⟩ := ao_some h
      refine ba_newa n4 0 dX5_init_15 rfl (by decide) hn4 lna_0 hb5.1 hb5.2 (ao_dc_nw ((mX5_init n).2.2.2.1 r0 n4 r0 (ao_zr M n4) (ao_nw ρ n4 0 (26 : Int32).toNatClampNeg (26 : Int32).toNatClampNeg) _ h)) ?_
      exact ih.2.2.2.1 r0 n4 r0 (ao_zr M n4) (ao_nw ρ n4 0 (26 : Int32).toNatClampNeg (26 : Int32).toNatClampNeg) _ h
    · intro r0 q0 q1 M ρ y h
      replace h := ao_ifF h (by decide)
      replace h := ao_ifF h (by decide)
      replace h := ao_ifF h (by decide)
      replace h := ao_ifT h rfl
      obtain ⟨hk6, h⟩ := ao_some h
      refine ba_putR q1 5 1 (q := (RX5, TX5, 11)) dX5_init_17 rfl hk6 (Nat.le_of_ble_eq_true rfl) lf_X5_15 (Or.inr ⟨rfl, rfl⟩) rfl rfl rfl ?_
      exact ih.2.2.2.2.1 r0 M (ao_r ρ q1 1 (some q0)) _ h
    · intro r0 M ρ y h
      replace h := ao_ifF h (by decide)
      replace h := ao_ifF h (by decide)
      replace h := ao_ifF h (by decide)
      replace h := ao_ifF h (by decide)
      replace h := ao_ifT h rfl
      refine ao_aload_n 0 dX5_init_20 rfl rfl ?_
      refine ao_bipush (v := 26) dX5_init_21 (by decide) ?_
      obtain ⟨n7, hn7, h⟩ := ao_bind h
      obtain ⟨hb8, h⟩ := ao_some h
      refine ba_newa n7 0 dX5_init_23 rfl (by decide) hn7 lna_0 hb8.1 hb8.2 (ao_dc_nw ((mX5_init n).2.2.2.2.2.1 r0 n7 r0 (ao_zr M n7) (ao_nw ρ n7 0 (26 : Int32).toNatClampNeg (26 : Int32).toNatClampNeg) _ h)) ?_
      exact ih.2.2.2.2.2.1 r0 n7 r0 (ao_zr M n7) (ao_nw ρ n7 0 (26 : Int32).toNatClampNeg (26 : Int32).toNatClampNeg) _ h
    · intro r0 q0 q1 M ρ y h
      replace h := ao_ifF h (by decide)
      replace h := ao_ifF h (by decide)
      replace h := ao_ifF h (by decide)
      replace h := ao_ifF h (by decide)
      replace h := ao_ifF h (by decide)
      replace h := ao_ifT h rfl
      obtain ⟨hk9, h⟩ := ao_some h
      refine ba_putR q1 5 2 (q := (RX5, TX5, 11)) dX5_init_25 rfl hk9 (Nat.le_of_ble_eq_true rfl) lf_X5_18 (Or.inr ⟨rfl, rfl⟩) rfl rfl rfl ?_
      exact ih.2.2.2.2.2.2.1 r0 M (ao_r ρ q1 2 (some q0)) _ h
    · intro r0 M ρ y h
      replace h := ao_ifF h (by decide)
      replace h := ao_ifF h (by decide)
      replace h := ao_ifF h (by decide)
      replace h := ao_ifF h (by decide)
      replace h := ao_ifF h (by decide)
      replace h := ao_ifF h (by decide)
      replace h := ao_ifT h rfl
      refine ao_aload_n 0 dX5_init_28 rfl rfl ?_
      refine ao_bipush (v := 26) dX5_init_29 (by decide) ?_
      obtain ⟨n10, hn10, h⟩ := ao_bind h
      obtain ⟨hb11, h⟩ := ao_some h
      refine ba_newa n10 0 dX5_init_31 rfl (by decide) hn10 lna_0 hb11.1 hb11.2 (ao_dc_nw ((mX5_init n).2.2.2.2.2.2.2.1 r0 n10 r0 (ao_zr M n10) (ao_nw ρ n10 0 (26 : Int32).toNatClampNeg (26 : Int32).toNatClampNeg) _ h)) ?_
      exact ih.2.2.2.2.2.2.2.1 r0 n10 r0 (ao_zr M n10) (ao_nw ρ n10 0 (26 : Int32).toNatClampNeg (26 : Int32).toNatClampNeg) _ h
    · intro r0 q0 q1 M ρ y h
      replace h := ao_ifF h (by decide)
      replace h := ao_ifF h (by decide)
      replace h := ao_ifF h (by decide)
      replace h := ao_ifF h (by decide)
      replace h := ao_ifF h (by decide)
      replace h := ao_ifF h (by decide)
      replace h := ao_ifF h (by decide)
      replace h := ao_ifT h rfl
      obtain ⟨hk12, h⟩ := ao_some h
      refine ba_putR q1 5 3 (q := (RX5, TX5, 11)) dX5_init_33 rfl hk12 (Nat.le_of_ble_eq_true rfl) lf_X5_21 (Or.inr ⟨rfl, rfl⟩) rfl rfl rfl ?_
      exact ih.2.2.2.2.2.2.2.2.1 r0 M (ao_r ρ q1 3 (some q0)) _ h
    · intro r0 M ρ y h
      replace h := ao_ifF h (by decide)
      replace h := ao_ifF h (by decide)
      replace h := ao_ifF h (by decide)
      replace h := ao_ifF h (by decide)
      replace h := ao_ifF h (by decide)
      replace h := ao_ifF h (by decide)
      replace h := ao_ifF h (by decide)
      replace h := ao_ifF h (by decide)
      replace h := ao_ifT h rfl
      refine ao_aload_n 0 dX5_init_36 rfl rfl ?_
      refine ao_bipush (v := 26) dX5_init_37 (by decide) ?_
      obtain ⟨n13, hn13, h⟩ := ao_bind h
      obtain ⟨hb14, h⟩ := ao_some h
      refine ba_newa n13 0 dX5_init_39 rfl (by decide) hn13 lna_0 hb14.1 hb14.2 (ao_dc_nw ((mX5_init n).2.2.2.2.2.2.2.2.2.1 r0 n13 r0 (ao_zr M n13) (ao_nw ρ n13 0 (26 : Int32).toNatClampNeg (26 : Int32).toNatClampNeg) _ h)) ?_
      exact ih.2.2.2.2.2.2.2.2.2.1 r0 n13 r0 (ao_zr M n13) (ao_nw ρ n13 0 (26 : Int32).toNatClampNeg (26 : Int32).toNatClampNeg) _ h
    · intro r0 q0 q1 M ρ y h
      replace h := ao_ifF h (by decide)
      replace h := ao_ifF h (by decide)
      replace h := ao_ifF h (by decide)
      replace h := ao_ifF h (by decide)
      replace h := ao_ifF h (by decide)
      replace h := ao_ifF h (by decide)
      replace h := ao_ifF h (by decide)
      replace h := ao_ifF h (by decide)
      replace h := ao_ifF h (by decide)
      replace h := ao_ifT h rfl
      obtain ⟨hk15, h⟩ := ao_some h
      refine ba_putR q1 5 5 (q := (RX5, TX5, 11)) dX5_init_41 rfl hk15 (Nat.le_of_ble_eq_true rfl) lf_X5_24 (Or.inr ⟨rfl, rfl⟩) rfl rfl rfl ?_
      exact ih.2.2.2.2.2.2.2.2.2.2.1 r0 M (ao_r ρ q1 5 (some q0)) _ h
    · intro r0 M ρ y h
      replace h := ao_ifF h (by decide)
      replace h := ao_ifF h (by decide)
      replace h := ao_ifF h (by decide)
      replace h := ao_ifF h (by decide)
      replace h := ao_ifF h (by decide)
      replace h := ao_ifF h (by decide)
      replace h := ao_ifF h (by decide)
      replace h := ao_ifF h (by decide)
      replace h := ao_ifF h (by decide)
      replace h := ao_ifF h (by decide)
      replace h := ao_ifT h rfl
      refine ao_aload_n 0 dX5_init_44 rfl rfl ?_
      refine ao_bipush (v := 64) dX5_init_45 (by decide) ?_
      obtain ⟨hk16, h⟩ := ao_some h
      refine an_putI r0 5 9 (q := (RX5, TX5, 11)) dX5_init_47 rfl hk16 (Nat.le_of_ble_eq_true rfl) lf_X5_27 rfl rfl rfl rfl (fun M17 hM17 => ?_)
      replace h := ao_letD h hM17
      refine ao_aload_n 0 dX5_init_50 rfl rfl ?_
      refine ao_bipush (v := 64) dX5_init_51 (by decide) ?_
      obtain ⟨n18, hn18, h⟩ := ao_bind h
      obtain ⟨hb19, h⟩ := ao_some h
      refine ba_newa n18 0 dX5_init_53 rfl (by decide) hn18 lna_0 hb19.1 hb19.2 (ao_dc_nw ((mX5_init n).2.2.2.2.2.2.2.2.2.2.2.1 r0 n18 r0 (ao_zr M17 n18) (ao_nw ρ n18 0 (64 : Int32).toNatClampNeg (64 : Int32).toNatClampNeg) _ h)) ?_
      exact ih.2.2.2.2.2.2.2.2.2.2.2.1 r0 n18 r0 (ao_zr M17 n18) (ao_nw ρ n18 0 (64 : Int32).toNatClampNeg (64 : Int32).toNatClampNeg) _ h
    · intro r0 q0 q1 M ρ y h
      replace h := ao_ifF h (by decide)
      replace h := ao_ifF h (by decide)
      replace h := ao_ifF h (by decide)
      replace h := ao_ifF h (by decide)
      replace h := ao_ifF h (by decide)
      replace h := ao_ifF h (by decide)
      replace h := ao_ifF h (by decide)
      replace h := ao_ifF h (by decide)
      replace h := ao_ifF h (by decide)
      replace h := ao_ifF h (by decide)
      replace h := ao_ifF h (by decide)
      replace h := ao_ifT h rfl
      obtain ⟨hk20, h⟩ := ao_some h
      refine ba_putR q1 5 6 (q := (RX5, TX5, 11)) dX5_init_55 rfl hk20 (Nat.le_of_ble_eq_true rfl) lf_X5_31 (Or.inl rfl) rfl rfl rfl ?_
      exact ih.2.2.2.2.2.2.2.2.2.2.2.2.1 r0 M (ao_r ρ q1 6 (some q0)) _ h
    · intro r0 M ρ y h
      replace h := ao_ifF h (by decide)
      replace h := ao_ifF h (by decide)
      replace h := ao_ifF h (by decide)
      replace h := ao_ifF h (by decide)
      replace h := ao_ifF h (by decide)
      replace h := ao_ifF h (by decide)
      replace h := ao_ifF h (by decide)
      replace h := ao_ifF h (by decide)
      replace h := ao_ifF h (by decide)
      replace h := ao_ifF h (by decide)
      replace h := ao_ifF h (by decide)
      replace h := ao_ifF h (by decide)
      replace h := ao_ifT h rfl
      refine ao_aload_n 0 dX5_init_58 rfl rfl ?_
      refine ao_bipush (v := 64) dX5_init_59 (by decide) ?_
      obtain ⟨n21, hn21, h⟩ := ao_bind h
      obtain ⟨hb22, h⟩ := ao_some h
      refine ba_newa n21 0 dX5_init_61 rfl (by decide) hn21 lna_0 hb22.1 hb22.2 (ao_dc_nw ((mX5_init n).2.2.2.2.2.2.2.2.2.2.2.2.2.1 r0 n21 r0 (ao_zr M n21) (ao_nw ρ n21 0 (64 : Int32).toNatClampNeg (64 : Int32).toNatClampNeg) _ h)) ?_
      exact ih.2.2.2.2.2.2.2.2.2.2.2.2.2.1 r0 n21 r0 (ao_zr M n21) (ao_nw ρ n21 0 (64 : Int32).toNatClampNeg (64 : Int32).toNatClampNeg) _ h
    · intro r0 q0 q1 M ρ y h
      replace h := ao_ifF h (by decide)
      replace h := ao_ifF h (by decide)
      replace h := ao_ifF h (by decide)
      replace h := ao_ifF h (by decide)
      replace h := ao_ifF h (by decide)
      replace h := ao_ifF h (by decide)
      replace h := ao_ifF h (by decide)
      replace h := ao_ifF h (by decide)
      replace h := ao_ifF h (by decide)
      replace h := ao_ifF h (by decide)
      replace h := ao_ifF h (by decide)
      replace h := ao_ifF h (by decide)
      replace h := ao_ifF h (by decide)
      replace h := ao_ifT h rfl
      obtain ⟨hk23, h⟩ := ao_some h
      refine ba_putR q1 5 7 (q := (RX5, TX5, 11)) dX5_init_63 rfl hk23 (Nat.le_of_ble_eq_true rfl) lf_X5_34 (Or.inl rfl) rfl rfl rfl ?_
      exact ih.2.2.2.2.2.2.2.2.2.2.2.2.2.2.1 r0 M (ao_r ρ q1 7 (some q0)) _ h
    · intro r0 M ρ y h
      replace h := ao_ifF h (by decide)
      replace h := ao_ifF h (by decide)
      replace h := ao_ifF h (by decide)
      replace h := ao_ifF h (by decide)
      replace h := ao_ifF h (by decide)
      replace h := ao_ifF h (by decide)
      replace h := ao_ifF h (by decide)
      replace h := ao_ifF h (by decide)
      replace h := ao_ifF h (by decide)
      replace h := ao_ifF h (by decide)
      replace h := ao_ifF h (by decide)
      replace h := ao_ifF h (by decide)
      replace h := ao_ifF h (by decide)
      replace h := ao_ifF h (by decide)
      replace h := ao_ifT h rfl
      refine ao_aload_n 0 dX5_init_66 rfl rfl ?_
      refine ao_bipush (v := 64) dX5_init_67 (by decide) ?_
      obtain ⟨n24, hn24, h⟩ := ao_bind h
      obtain ⟨hb25, h⟩ := ao_some h
      refine ba_newa n24 0 dX5_init_69 rfl (by decide) hn24 lna_0 hb25.1 hb25.2 (ao_dc_nw ((mX5_init n).2.2.2.2.2.2.2.2.2.2.2.2.2.2.2.1 r0 n24 r0 (ao_zr M n24) (ao_nw ρ n24 0 (64 : Int32).toNatClampNeg (64 : Int32).toNatClampNeg) _ h)) ?_
      exact ih.2.2.2.2.2.2.2.2.2.2.2.2.2.2.2.1 r0 n24 r0 (ao_zr M n24) (ao_nw ρ n24 0 (64 : Int32).toNatClampNeg (64 : Int32).toNatClampNeg) _ h
    · intro r0 q0 q1 M ρ y h
      replace h := ao_ifF h (by decide)
      replace h := ao_ifF h (by decide)
      replace h := ao_ifF h (by decide)
      replace h := ao_ifF h (by decide)
      replace h := ao_ifF h (by decide)
      replace h := ao_ifF h (by decide)
      replace h := ao_ifF h (by decide)
      replace h := ao_ifF h (by decide)
      replace h := ao_ifF h (by decide)
      replace h := ao_ifF h (by decide)
      replace h := ao_ifF h (by decide)
      replace h := ao_ifF h (by decide)
      replace h := ao_ifF h (by decide)
      replace h := ao_ifF h (by decide)
      replace h := ao_ifF h (by decide)
      replace h := ao_ifT h rfl
      obtain ⟨hk26, h⟩ := ao_some h
      refine ba_putR q1 5 8 (q := (RX5, TX5, 11)) dX5_init_71 rfl hk26 (Nat.le_of_ble_eq_true rfl) lf_X5_37 (Or.inl rfl) rfl rfl rfl ?_
      exact ih.2.2.2.2.2.2.2.2.2.2.2.2.2.2.2.2 r0 M (ao_r ρ q1 8 (some q0)) _ h
    · intro r0 M ρ y h
      replace h := ao_ifF h (by decide)
      replace h := ao_ifF h (by decide)
      replace h := ao_ifF h (by decide)
      replace h := ao_ifF h (by decide)
      replace h := ao_ifF h (by decide)
      replace h := ao_ifF h (by decide)
      replace h := ao_ifF h (by decide)
      replace h := ao_ifF h (by decide)
      replace h := ao_ifF h (by decide)
      replace h := ao_ifF h (by decide)
      replace h := ao_ifF h (by decide)
      replace h := ao_ifF h (by decide)
      replace h := ao_ifF h (by decide)
      replace h := ao_ifF h (by decide)
      replace h := ao_ifF h (by decide)
      replace h := ao_ifF h (by decide)
      replace h := ao_ifT h rfl
      refine ao_aload_n 0 dX5_init_74 rfl rfl ?_
      obtain ⟨hk27, h⟩ := ao_some h
      obtain ⟨j28, hj28, h⟩ := ao_bind h
      refine an_getR r0 5 2 (q := (RX5, TX5, 11)) dX5_init_75 rfl hk27 (Nat.le_of_ble_eq_true rfl) rfl lf_X5_18 hj28 ?_
      refine ao_iconst (v := (-1)) dX5_init_78 (by decide) ?_
      obtain ⟨p29, hp29, h⟩ := ao_bind h
      refine an_callSv [.ref (Γ.2.2.2 + j28), .int (-1 : Int32)] (aJ7_fill_53178 (d - 1) (by omega) _ j28 (-1 : Int32) M ρ hp29) dX5_init_79 lc_X5_40 lt_J7_fill_53178 rfl rfl (Nat.le_of_ble_eq_true rfl) (ao_hR (by omega) (by decide)) ?_
      refine ao_aload_n 0 dX5_init_82 rfl rfl ?_
      obtain ⟨j30, hj30, h⟩ := ao_bind h
      refine an_getR r0 5 5 (q := (RX5, TX5, 11)) dX5_init_83 rfl hk27 (Nat.le_of_ble_eq_true rfl) rfl lf_X5_24 hj30 ?_
      refine ao_iconst (v := (-1)) dX5_init_86 (by decide) ?_
      obtain ⟨p31, hp31, h⟩ := ao_bind h
      refine an_callSv [.ref (Γ.2.2.2 + j30), .int (-1 : Int32)] (aJ7_fill_53178 (d - 1) (by omega) _ j30 (-1 : Int32) p29 ρ hp31) dX5_init_87 lc_X5_40 lt_J7_fill_53178 rfl rfl (Nat.le_of_ble_eq_true rfl) (ao_hR (by omega) (by decide)) ?_
      cases h
      exact ao_return dX5_init_90 rfl ⟨rfl, rfl⟩
theorem me_X5_init (n : Nat) (r0 : Nat) (M : ao_M) (ρ : ao_H) {y : ao_S} (h : gX5_init n r0 M ρ = some y) : ao_le ρ y.2 := (mX5_init n).1 r0 M ρ y h
set_option maxRecDepth 100000 in
set_option maxHeartbeats 4000000 in
theorem aX5_init {Γ : ao_C} (d : Nat) (hd : 1 ≤ d) (n : Nat) (r0 : Nat) (M : ao_M) (ρ : ao_H) {y : ao_S} (h : gX5_init n r0 M ρ = some y) : ao_A Γ uX5_init d (ao_dc ρ y.2) (ao_ds ρ y.2) [.ref (Γ.2.2.2 + r0)] (M, ρ) (ao_QV y) := by
  refine ao_of (by decide) (ao_cat1 (Nat.le_of_ble_eq_true rfl)) (Nat.le_of_ble_eq_true rfl) ?_
  show ao_W Γ uX5_init (ao_rm d (ao_dc ρ y.2) (ao_ds ρ y.2)) (ao_Q Γ (ao_QV y) (ao_dc ρ y.2) (ao_ds ρ y.2)) (ao_dc ρ y.2) (ao_ds ρ y.2) 0 [some (.ref (Γ.2.2.2 + r0))] [] (M, ρ)
  exact (wX5_init d hd _ _ n).1 r0 M ρ y h

abbrev uX5_clear : ao_Mi := (yX5_clear, cX5_clear, 1, none, [])
def gX5_clear (n : Nat) (r0 : Nat) (M : ao_M) (ρ : ao_H) : Option (ao_M) :=
  if ρ.2.1 r0 = 15 then
  (ρ.1 r0 0).bind fun j2 =>
  (gJ7_fill_53178 n j2 (0 : Int32) M ρ).bind fun p3 =>
  (ρ.1 r0 1).bind fun j4 =>
  (gJ7_fill_53178 n j4 (0 : Int32) p3 ρ).bind fun p5 =>
  (ρ.1 r0 2).bind fun j6 =>
  (gJ7_fill_53178 n j6 (-1 : Int32) p5 ρ).bind fun p7 =>
  (ρ.1 r0 3).bind fun j8 =>
  (gJ7_fill_53178 n j8 (0 : Int32) p7 ρ).bind fun p9 =>
  (ρ.1 r0 5).bind fun j10 =>
  (gJ7_fill_53178 n j10 (-1 : Int32) p9 ρ).bind fun p11 =>
  ao_let (ao_u p11 r0 4 (0 : Int32)) fun M12 =>
  ao_let (ao_u M12 r0 10 (0 : Int32)) fun M13 =>
  some M13
  else none
set_option maxRecDepth 100000 in
set_option maxHeartbeats 4000000 in
theorem aX5_clear {Γ : ao_C} (d : Nat) (hd : 1 ≤ d) (n : Nat) (r0 : Nat) (M : ao_M) (ρ : ao_H) {y : ao_M} (h : gX5_clear n r0 M ρ = some y) : ao_A Γ uX5_clear d 0 0 [.ref (Γ.2.2.2 + r0)] (M, ρ) (ao_PV ρ y) := by
  refine ao_of (by decide) (ao_cat1 (Nat.le_of_ble_eq_true rfl)) (Nat.le_of_ble_eq_true rfl) ?_
  show ao_W Γ uX5_clear (ao_rm d 0 0) (ao_Q Γ (ao_PV ρ y) 0 0) 0 0 0 [some (.ref (Γ.2.2.2 + r0))] [] (M, ρ)
  unfold gX5_clear at h
  refine ao_aload_n 0 dX5_clear_0 rfl rfl ?_
  obtain ⟨hk1, h⟩ := ao_some h
  obtain ⟨j2, hj2, h⟩ := ao_bind h
  refine an_getR r0 5 0 (q := (RX5, TX5, 11)) dX5_clear_1 rfl hk1 (Nat.le_of_ble_eq_true rfl) rfl lf_X5_9 hj2 ?_
  refine ao_iconst (v := 0) dX5_clear_4 (by decide) ?_
  obtain ⟨p3, hp3, h⟩ := ao_bind h
  refine an_callSv [.ref (Γ.2.2.2 + j2), .int (0 : Int32)] (aJ7_fill_53178 (d - 1) (by omega) _ j2 (0 : Int32) M ρ hp3) dX5_clear_5 lc_X5_40 lt_J7_fill_53178 rfl rfl (Nat.le_of_ble_eq_true rfl) (ao_hR (by omega) (by decide)) ?_
  refine ao_aload_n 0 dX5_clear_8 rfl rfl ?_
  obtain ⟨j4, hj4, h⟩ := ao_bind h
  refine an_getR r0 5 1 (q := (RX5, TX5, 11)) dX5_clear_9 rfl hk1 (Nat.le_of_ble_eq_true rfl) rfl lf_X5_15 hj4 ?_
  refine ao_iconst (v := 0) dX5_clear_12 (by decide) ?_
  obtain ⟨p5, hp5, h⟩ := ao_bind h
  refine an_callSv [.ref (Γ.2.2.2 + j4), .int (0 : Int32)] (aJ7_fill_53178 (d - 1) (by omega) _ j4 (0 : Int32) p3 ρ hp5) dX5_clear_13 lc_X5_40 lt_J7_fill_53178 rfl rfl (Nat.le_of_ble_eq_true rfl) (ao_hR (by omega) (by decide)) ?_
  refine ao_aload_n 0 dX5_clear_16 rfl rfl ?_
  obtain ⟨j6, hj6, h⟩ := ao_bind h
  refine an_getR r0 5 2 (q := (RX5, TX5, 11)) dX5_clear_17 rfl hk1 (Nat.le_of_ble_eq_true rfl) rfl lf_X5_18 hj6 ?_
  refine ao_iconst (v := (-1)) dX5_clear_20 (by decide) ?_
  obtain ⟨p7, hp7, h⟩ := ao_bind h
  refine an_callSv [.ref (Γ.2.2.2 + j6), .int (-1 : Int32)] (aJ7_fill_53178 (d - 1) (by omega) _ j6 (-1 : Int32) p5 ρ hp7) dX5_clear_21 lc_X5_40 lt_J7_fill_53178 rfl rfl (Nat.le_of_ble_eq_true rfl) (ao_hR (by omega) (by decide)) ?_
  refine ao_aload_n 0 dX5_clear_24 rfl rfl ?_
  obtain ⟨j8, hj8, h⟩ := ao_bind h
  refine an_getR r0 5 3 (q := (RX5, TX5, 11)) dX5_clear_25 rfl hk1 (Nat.le_of_ble_eq_true rfl) rfl lf_X5_21 hj8 ?_
  refine ao_iconst (v := 0) dX5_clear_28 (by decide) ?_
  obtain ⟨p9, hp9, h⟩ := ao_bind h
  refine an_callSv [.ref (Γ.2.2.2 + j8), .int (0 : Int32)] (aJ7_fill_53178 (d - 1) (by omega) _ j8 (0 : Int32) p7 ρ hp9) dX5_clear_29 lc_X5_40 lt_J7_fill_53178 rfl rfl (Nat.le_of_ble_eq_true rfl) (ao_hR (by omega) (by decide)) ?_
  refine ao_aload_n 0 dX5_clear_32 rfl rfl ?_
  obtain ⟨j10, hj10, h⟩ := ao_bind h
  refine an_getR r0 5 5 (q := (RX5, TX5, 11)) dX5_clear_33 rfl hk1 (Nat.le_of_ble_eq_true rfl) rfl lf_X5_24 hj10 ?_
  refine ao_iconst (v := (-1)) dX5_clear_36 (by decide) ?_
  obtain ⟨p11, hp11, h⟩ := ao_bind h
  refine an_callSv [.ref (Γ.2.2.2 + j10), .int (-1 : Int32)] (aJ7_fill_53178 (d - 1) (by omega) _ j10 (-1 : Int32) p9 ρ hp11) dX5_clear_37 lc_X5_40 lt_J7_fill_53178 rfl rfl (Nat.le_of_ble_eq_true rfl) (ao_hR (by omega) (by decide)) ?_
  refine ao_aload_n 0 dX5_clear_40 rfl rfl ?_
  refine ao_iconst (v := 0) dX5_clear_41 (by decide) ?_
  refine an_putI r0 5 4 (q := (RX5, TX5, 11)) dX5_clear_42 rfl hk1 (Nat.le_of_ble_eq_true rfl) lf_X5_46 rfl rfl rfl rfl (fun M12 hM12 => ?_)
  replace h := ao_letD h hM12
  refine ao_aload_n 0 dX5_clear_45 rfl rfl ?_
  refine ao_iconst (v := 0) dX5_clear_46 (by decide) ?_
  refine an_putI r0 5 10 (q := (RX5, TX5, 11)) dX5_clear_47 rfl hk1 (Nat.le_of_ble_eq_true rfl) lf_X5_49 rfl rfl rfl rfl (fun M13 hM13 => ?_)
  replace h := ao_letD h hM13
  cases h
  exact ao_return dX5_clear_50 rfl ⟨rfl, rfl⟩

abbrev uX5_change : ao_Mi := (yX5_change, cX5_change, 3, none, [])
def fX5_change : Nat → Nat → Nat → Int32 → Int32 → Nat → Nat →  ao_M → ao_H → Option (ao_S)
  | 0, _, _, _, _, _, _, _, _ => none
  | n + 1, pc, r0, x1, x2, q0, q1, M, ρ =>
    if pc = 0 then
      if x1 < 0 then
        some (M, ρ)
      else
        if x1 < (26 : Int32) then
          if ρ.2.1 r0 = 15 then
          (ρ.1 r0 0).bind fun j4 =>
          if ρ.2.1 j4 = 0 then
          if ¬ (x1 < 0 ∨ ρ.2.2.1 j4 ≤ x1.toNatClampNeg) then
          ao_let (ao_u M j4 x1.toNatClampNeg x2) fun M7 =>
          (ρ.1 r0 1).bind fun j8 =>
          if ρ.2.1 j8 = 0 then
          if ¬ (x1 < 0 ∨ ρ.2.2.1 j8 ≤ x1.toNatClampNeg) then
          ao_let (ao_u M7 j8 x1.toNatClampNeg (M7 r0 4)) fun M11 =>
          if (M11 r0 10) < (M11 r0 9) then
            fX5_change n 103 r0 x1 x2 0 0 M11 ρ
          else
            if (65536 : Int32) ≤ (M11 r0 9) then
              fX5_change n 103 r0 x1 x2 0 0 M11 ρ
            else
              ao_let (ao_u M11 r0 9 ((M11 r0 9) * (2 : Int32))) fun M14 =>
              (ρ.1 r0 6).bind fun j15 =>
              (gJ7_copyOf_59c91 n j15 (M14 r0 9) M14 ρ).bind fun p16 =>
              fX5_change n 70 r0 x1 x2 p16.1 r0 p16.2.1 p16.2.2
          else none
          else none
          else none
          else none
          else none
        else
          some (M, ρ)
    else if pc = 70 then
      if ρ.2.1 q1 = 15 then
      fX5_change n 73 r0 x1 x2 0 0 M (ao_r ρ q1 6 (some q0))
      else none
    else if pc = 73 then
      if ρ.2.1 r0 = 15 then
      (ρ.1 r0 7).bind fun j19 =>
      (gJ7_copyOf_59c91 n j19 (M r0 9) M ρ).bind fun p20 =>
      fX5_change n 85 r0 x1 x2 p20.1 r0 p20.2.1 p20.2.2
      else none
    else if pc = 85 then
      if ρ.2.1 q1 = 15 then
      fX5_change n 88 r0 x1 x2 0 0 M (ao_r ρ q1 7 (some q0))
      else none
    else if pc = 88 then
      if ρ.2.1 r0 = 15 then
      (ρ.1 r0 8).bind fun j23 =>
      (gJ7_copyOf_59c91 n j23 (M r0 9) M ρ).bind fun p24 =>
      fX5_change n 100 r0 x1 x2 p24.1 r0 p24.2.1 p24.2.2
      else none
    else if pc = 100 then
      if ρ.2.1 q1 = 15 then
      fX5_change n 103 r0 x1 x2 0 0 M (ao_r ρ q1 8 (some q0))
      else none
    else if pc = 103 then
      if ρ.2.1 r0 = 15 then
      if (M r0 10) < 0 then
        some (M, ρ)
      else
        if (M r0 9) ≤ (M r0 10) then
          some (M, ρ)
        else
          (ρ.1 r0 6).bind fun j29 =>
          if ρ.2.1 j29 = 0 then
          if ¬ ((M r0 10) < 0 ∨ ρ.2.2.1 j29 ≤ (M r0 10).toNatClampNeg) then
          ao_let (ao_u M j29 (M r0 10).toNatClampNeg (M r0 4)) fun M32 =>
          (ρ.1 r0 7).bind fun j33 =>
          if ρ.2.1 j33 = 0 then
          if ¬ ((M32 r0 10) < 0 ∨ ρ.2.2.1 j33 ≤ (M32 r0 10).toNatClampNeg) then
          ao_let (ao_u M32 j33 (M32 r0 10).toNatClampNeg x2) fun M36 =>
          (ρ.1 r0 8).bind fun j37 =>
          (ρ.1 r0 5).bind fun j38 =>
          if ρ.2.1 j38 = 0 then
          if ¬ (x1 < 0 ∨ ρ.2.2.1 j38 ≤ x1.toNatClampNeg) then
          if ρ.2.1 j37 = 0 then
          if ¬ ((M36 r0 10) < 0 ∨ ρ.2.2.1 j37 ≤ (M36 r0 10).toNatClampNeg) then
          ao_let (ao_u M36 j37 (M36 r0 10).toNatClampNeg (M36 j38 x1.toNatClampNeg)) fun M43 =>
          ao_let (ao_u M43 j38 x1.toNatClampNeg (M43 r0 10)) fun M44 =>
          ao_let (ao_u M44 r0 10 ((M44 r0 10) + (1 : Int32))) fun M45 =>
          some (M45, ρ)
          else none
          else none
          else none
          else none
          else none
          else none
          else none
          else none
      else none
    else none
def gX5_change (n : Nat) (r0 : Nat) (x1 : Int32) (x2 : Int32) (M : ao_M) (ρ : ao_H) : Option (ao_S) := fX5_change n 0 r0 x1 x2 0 0 M ρ
set_option maxRecDepth 100000 in
set_option maxHeartbeats 4000000 in
theorem mX5_change : ∀ n : Nat, (∀ (r0 : Nat) (x1 : Int32) (x2 : Int32) (M : ao_M) (ρ : ao_H) (y : ao_S), fX5_change n 0 r0 x1 x2 0 0 M ρ = some y → ao_le ρ y.2) ∧ (∀ (r0 : Nat) (x1 : Int32) (x2 : Int32) (q0 : Nat) (q1 : Nat) (M : ao_M) (ρ : ao_H) (y : ao_S), fX5_change n 70 r0 x1 x2 q0 q1 M ρ = some y → ao_le ρ y.2) ∧ (∀ (r0 : Nat) (x1 : Int32) (x2 : Int32) (M : ao_M) (ρ : ao_H) (y : ao_S), fX5_change n 73 r0 x1 x2 0 0 M ρ = some y → ao_le ρ y.2) ∧ (∀ (r0 : Nat) (x1 : Int32) (x2 : Int32) (q0 : Nat) (q1 : Nat) (M : ao_M) (ρ : ao_H) (y : ao_S), fX5_change n 85 r0 x1 x2 q0 q1 M ρ = some y → ao_le ρ y.2) ∧ (∀ (r0 : Nat) (x1 : Int32) (x2 : Int32) (M : ao_M) (ρ : ao_H) (y : ao_S), fX5_change n 88 r0 x1 x2 0 0 M ρ = some y → ao_le ρ y.2) ∧ (∀ (r0 : Nat) (x1 : Int32) (x2 : Int32) (q0 : Nat) (q1 : Nat) (M : ao_M) (ρ : ao_H) (y : ao_S), fX5_change n 100 r0 x1 x2 q0 q1 M ρ = some y → ao_le ρ y.2) ∧ (∀ (r0 : Nat) (x1 : Int32) (x2 : Int32) (M : ao_M) (ρ : ao_H) (y : ao_S), fX5_change n 103 r0 x1 x2 0 0 M ρ = some y → ao_le ρ y.2) := by
  intro n
  induction n with
  | zero => exact ⟨fun _ _ _ _ _ _ h => ao_no h, fun _ _ _ _ _ _ _ _ h => ao_no h, fun _ _ _ _ _ _ h => ao_no h, fun _ _ _ _ _ _ _ _ h => ao_no h, fun _ _ _ _ _ _ h => ao_no h, fun _ _ _ _ _ _ _ _ h => ao_no h, fun _ _ _ _ _ _ h => ao_no h⟩
  | succ n ih =>
    refine ⟨?_, ?_, ?_, ?_, ?_, ?_, ?_⟩
    · intro r0 x1 x2 M ρ y h
      replace h := ao_ifT h rfl
      rcases ao_ifC h with h | h
      · cases h
        exact ao_le_rf _
      · rcases ao_ifC h with h | h
        · obtain ⟨-, h⟩ := ao_some h
          obtain ⟨j4, hj4, h⟩ := ao_bind h
          obtain ⟨-, h⟩ := ao_some h
          obtain ⟨-, h⟩ := ao_some h
          replace h := ao_letD h rfl
          generalize (ao_u M j4 x1.toNatClampNeg x2) = M7 at h
          obtain ⟨j8, hj8, h⟩ := ao_bind h
          obtain ⟨-, h⟩ := ao_some h
          obtain ⟨-, h⟩ := ao_some h
          replace h := ao_letD h rfl
          generalize (ao_u M7 j8 x1.toNatClampNeg (M7 r0 4)) = M11 at h
          rcases ao_ifC h with h | h
          · exact ih.2.2.2.2.2.2 r0 x1 x2 M11 ρ _ h
          · rcases ao_ifC h with h | h
            · exact ih.2.2.2.2.2.2 r0 x1 x2 M11 ρ _ h
            · replace h := ao_letD h rfl
              generalize (ao_u M11 r0 9 ((M11 r0 9) * (2 : Int32))) = M14 at h
              obtain ⟨j15, hj15, h⟩ := ao_bind h
              obtain ⟨p16, hp16, h⟩ := ao_bind h
              exact ao_le_tr (me_J7_copyOf_59c91 n j15 (M14 r0 9) M14 ρ hp16) (ih.2.1 r0 x1 x2 p16.1 r0 p16.2.1 p16.2.2 _ h)
        · cases h
          exact ao_le_rf _
    · intro r0 x1 x2 q0 q1 M ρ y h
      replace h := ao_ifF h (by decide)
      replace h := ao_ifT h rfl
      obtain ⟨-, h⟩ := ao_some h
      exact ao_le_tr (ao_le_r _ _ _ _) (ih.2.2.1 r0 x1 x2 M (ao_r ρ q1 6 (some q0)) _ h)
    · intro r0 x1 x2 M ρ y h
      replace h := ao_ifF h (by decide)
      replace h := ao_ifF h (by decide)
      replace h := ao_ifT h rfl
      obtain ⟨-, h⟩ := ao_some h
      obtain ⟨j19, hj19, h⟩ := ao_bind h
      obtain ⟨p20, hp20, h⟩ := ao_bind h
      exact ao_le_tr (me_J7_copyOf_59c91 n j19 (M r0 9) M ρ hp20) (ih.2.2.2.1 r0 x1 x2 p20.1 r0 p20.2.1 p20.2.2 _ h)
    · intro r0 x1 x2 q0 q1 M ρ y h
      replace h := ao_ifF h (by decide)
      replace h := ao_ifF h (by decide)
      replace h := ao_ifF h (by decide)
      replace h := ao_ifT h rfl
      obtain ⟨-, h⟩ := ao_some h
      exact ao_le_tr (ao_le_r _ _ _ _) (ih.2.2.2.2.1 r0 x1 x2 M (ao_r ρ q1 7 (some q0)) _ h)
    · intro r0 x1 x2 M ρ y h
      replace h := ao_ifF h (by decide)
      replace h := ao_ifF h (by decide)
      replace h := ao_ifF h (by decide)
      replace h := ao_ifF h (by decide)
      replace h := ao_ifT h rfl
      obtain ⟨-, h⟩ := ao_some h
      obtain ⟨j23, hj23, h⟩ := ao_bind h
      obtain ⟨p24, hp24, h⟩ := ao_bind h
      exact ao_le_tr (me_J7_copyOf_59c91 n j23 (M r0 9) M ρ hp24) (ih.2.2.2.2.2.1 r0 x1 x2 p24.1 r0 p24.2.1 p24.2.2 _ h)
    · intro r0 x1 x2 q0 q1 M ρ y h
      replace h := ao_ifF h (by decide)
      replace h := ao_ifF h (by decide)
      replace h := ao_ifF h (by decide)
      replace h := ao_ifF h (by decide)
      replace h := ao_ifF h (by decide)
      replace h := ao_ifT h rfl
      obtain ⟨-, h⟩ := ao_some h
      exact ao_le_tr (ao_le_r _ _ _ _) (ih.2.2.2.2.2.2 r0 x1 x2 M (ao_r ρ q1 8 (some q0)) _ h)
    · intro r0 x1 x2 M ρ y h
      replace h := ao_ifF h (by decide)
      replace h := ao_ifF h (by decide)
      replace h := ao_ifF h (by decide)
      replace h := ao_ifF h (by decide)
      replace h := ao_ifF h (by decide)
      replace h := ao_ifF h (by decide)
      replace h := ao_ifT h rfl
      obtain ⟨-, h⟩ := ao_some h
      rcases ao_ifC h with h | h
      · cases h
        exact ao_le_rf _
      · rcases ao_ifC h with h | h
        · cases h
          exact ao_le_rf _
        · obtain ⟨j29, hj29, h⟩ := ao_bind h
          obtain ⟨-, h⟩ := ao_some h
          obtain ⟨-, h⟩ := ao_some h
          replace h := ao_letD h rfl
          generalize (ao_u M j29 (M r0 10).toNatClampNeg (M r0 4)) = M32 at h
          obtain ⟨j33, hj33, h⟩ := ao_bind h
          obtain ⟨-, h⟩ := ao_some h
          obtain ⟨-, h⟩ := ao_some h
          replace h := ao_letD h rfl
          generalize (ao_u M32 j33 (M32 r0 10).toNatClampNeg x2) = M36 at h
          obtain ⟨j37, hj37, h⟩ := ao_bind h
          obtain ⟨j38, hj38, h⟩ := ao_bind h
          obtain ⟨-, h⟩ := ao_some h
          obtain ⟨-, h⟩ := ao_some h
          obtain ⟨-, h⟩ := ao_some h
          obtain ⟨-, h⟩ := ao_some h
          replace h := ao_letD h rfl
          generalize (ao_u M36 j37 (M36 r0 10).toNatClampNeg (M36 j38 x1.toNatClampNeg)) = M43 at h
          replace h := ao_letD h rfl
          generalize (ao_u M43 j38 x1.toNatClampNeg (M43 r0 10)) = M44 at h
          replace h := ao_letD h rfl
          generalize (ao_u M44 r0 10 ((M44 r0 10) + (1 : Int32))) = M45 at h
          cases h
          exact ao_le_rf _
set_option maxRecDepth 100000 in
set_option maxHeartbeats 4000000 in
theorem wX5_change {Γ : ao_C} (d : Nat) (hd : 2 ≤ d) (MC MS : Nat) : ∀ n : Nat, (∀ (r0 : Nat) (x1 : Int32) (x2 : Int32) (M : ao_M) (ρ : ao_H) (y : ao_S), fX5_change n 0 r0 x1 x2 0 0 M ρ = some y → ao_W Γ uX5_change (ao_rm d MC MS) (ao_Q Γ (ao_QV y) MC MS) (ao_dc ρ y.2) (ao_ds ρ y.2) 0 [some (.ref (Γ.2.2.2 + r0)), some (.int x1), some (.int x2)] [] (M, ρ)) ∧ (∀ (r0 : Nat) (x1 : Int32) (x2 : Int32) (q0 : Nat) (q1 : Nat) (M : ao_M) (ρ : ao_H) (y : ao_S), fX5_change n 70 r0 x1 x2 q0 q1 M ρ = some y → ao_W Γ uX5_change (ao_rm d MC MS) (ao_Q Γ (ao_QV y) MC MS) (ao_dc ρ y.2) (ao_ds ρ y.2) 70 [some (.ref (Γ.2.2.2 + r0)), some (.int x1), some (.int x2)] [.ref (Γ.2.2.2 + q0), .ref (Γ.2.2.2 + q1)] (M, ρ)) ∧ (∀ (r0 : Nat) (x1 : Int32) (x2 : Int32) (M : ao_M) (ρ : ao_H) (y : ao_S), fX5_change n 73 r0 x1 x2 0 0 M ρ = some y → ao_W Γ uX5_change (ao_rm d MC MS) (ao_Q Γ (ao_QV y) MC MS) (ao_dc ρ y.2) (ao_ds ρ y.2) 73 [some (.ref (Γ.2.2.2 + r0)), some (.int x1), some (.int x2)] [] (M, ρ)) ∧ (∀ (r0 : Nat) (x1 : Int32) (x2 : Int32) (q0 : Nat) (q1 : Nat) (M : ao_M) (ρ : ao_H) (y : ao_S), fX5_change n 85 r0 x1 x2 q0 q1 M ρ = some y → ao_W Γ uX5_change (ao_rm d MC MS) (ao_Q Γ (ao_QV y) MC MS) (ao_dc ρ y.2) (ao_ds ρ y.2) 85 [some (.ref (Γ.2.2.2 + r0)), some (.int x1), some (.int x2)] [.ref (Γ.2.2.2 + q0), .ref (Γ.2.2.2 + q1)] (M, ρ)) ∧ (∀ (r0 : Nat) (x1 : Int32) (x2 : Int32) (M : ao_M) (ρ : ao_H) (y : ao_S), fX5_change n 88 r0 x1 x2 0 0 M ρ = some y → ao_W Γ uX5_change (ao_rm d MC MS) (ao_Q Γ (ao_QV y) MC MS) (ao_dc ρ y.2) (ao_ds ρ y.2) 88 [some (.ref (Γ.2.2.2 + r0)), some (.int x1), some (.int x2)] [] (M, ρ)) ∧ (∀ (r0 : Nat) (x1 : Int32) (x2 : Int32) (q0 : Nat) (q1 : Nat) (M : ao_M) (ρ : ao_H) (y : ao_S), fX5_change n 100 r0 x1 x2 q0 q1 M ρ = some y → ao_W Γ uX5_change (ao_rm d MC MS) (ao_Q Γ (ao_QV y) MC MS) (ao_dc ρ y.2) (ao_ds ρ y.2) 100 [some (.ref (Γ.2.2.2 + r0)), some (.int x1), some (.int x2)] [.ref (Γ.2.2.2 + q0), .ref (Γ.2.2.2 + q1)] (M, ρ)) ∧ (∀ (r0 : Nat) (x1 : Int32) (x2 : Int32) (M : ao_M) (ρ : ao_H) (y : ao_S), fX5_change n 103 r0 x1 x2 0 0 M ρ = some y → ao_W Γ uX5_change (ao_rm d MC MS) (ao_Q Γ (ao_QV y) MC MS) (ao_dc ρ y.2) (ao_ds ρ y.2) 103 [some (.ref (Γ.2.2.2 + r0)), some (.int x1), some (.int x2)] [] (M, ρ)) := by
  intro n
  induction n with
  | zero => exact ⟨fun _ _ _ _ _ _ h => ao_no h, fun _ _ _ _ _ _ _ _ h => ao_no h, fun _ _ _ _ _ _ h => ao_no h, fun _ _ _ _ _ _ _ _ h => ao_no h, fun _ _ _ _ _ _ h => ao_no h, fun _ _ _ _ _ _ _ _ h => ao_no h, fun _ _ _ _ _ _ h => ao_no h⟩
  | succ n ih =>
    refine ⟨?_, ?_, ?_, ?_, ?_, ?_, ?_⟩
    · intro r0 x1 x2 M ρ y h
      replace h := ao_ifT h rfl
      refine ao_iload_n 1 dX5_change_0 rfl rfl ?_
      refine ao_if_lt 10 dX5_change_1 (by decide) (fun c1 => ?_) (fun c1 => ?_)
      · replace h := ao_ifT h c1
        cases h
        exact ao_return dX5_change_10 rfl ⟨rfl, rfl⟩
      · replace h := ao_ifF h c1
        refine ao_iload_n 1 dX5_change_4 rfl rfl ?_
        refine ao_bipush (v := 26) dX5_change_5 (by decide) ?_
        refine ao_icmp_lt 11 dX5_change_7 (by decide) (fun c2 => ?_) (fun c2 => ?_)
        · replace h := ao_ifT h c2
          refine ao_aload_n 0 dX5_change_11 rfl rfl ?_
          obtain ⟨hk3, h⟩ := ao_some h
          obtain ⟨j4, hj4, h⟩ := ao_bind h
          refine an_getR r0 5 0 (q := (RX5, TX5, 11)) dX5_change_12 rfl hk3 (Nat.le_of_ble_eq_true rfl) rfl lf_X5_9 hj4 ?_
          refine ao_iload_n 1 dX5_change_15 rfl rfl ?_
          refine ao_iload_n 2 dX5_change_16 rfl rfl ?_
          obtain ⟨hk5, h⟩ := ao_some h
          obtain ⟨hb6, h⟩ := ao_some h
          refine an_iastore j4 dX5_change_17 hk5 hb6 (fun M7 hM7 => ?_)
          replace h := ao_letD h hM7
          refine ao_aload_n 0 dX5_change_18 rfl rfl ?_
          obtain ⟨j8, hj8, h⟩ := ao_bind h
          refine an_getR r0 5 1 (q := (RX5, TX5, 11)) dX5_change_19 rfl hk3 (Nat.le_of_ble_eq_true rfl) rfl lf_X5_15 hj8 ?_
          refine ao_iload_n 1 dX5_change_22 rfl rfl ?_
          refine ao_aload_n 0 dX5_change_23 rfl rfl ?_
          refine an_getI r0 5 4 (q := (RX5, TX5, 11)) dX5_change_24 rfl hk3 (Nat.le_of_ble_eq_true rfl) rfl lf_X5_46 ?_
          obtain ⟨hk9, h⟩ := ao_some h
          obtain ⟨hb10, h⟩ := ao_some h
          refine an_iastore j8 dX5_change_27 hk9 hb10 (fun M11 hM11 => ?_)
          replace h := ao_letD h hM11
          refine ao_aload_n 0 dX5_change_28 rfl rfl ?_
          refine an_getI r0 5 10 (q := (RX5, TX5, 11)) dX5_change_29 rfl hk3 (Nat.le_of_ble_eq_true rfl) rfl lf_X5_49 ?_
          refine ao_aload_n 0 dX5_change_32 rfl rfl ?_
          refine an_getI r0 5 9 (q := (RX5, TX5, 11)) dX5_change_33 rfl hk3 (Nat.le_of_ble_eq_true rfl) rfl lf_X5_27 ?_
          refine ao_icmp_lt 103 dX5_change_36 (by decide) (fun c12 => ?_) (fun c12 => ?_)
          · replace h := ao_ifT h c12
            exact ih.2.2.2.2.2.2 r0 x1 x2 M11 ρ _ h
          · replace h := ao_ifF h c12
            refine ao_aload_n 0 dX5_change_39 rfl rfl ?_
            refine an_getI r0 5 9 (q := (RX5, TX5, 11)) dX5_change_40 rfl hk3 (Nat.le_of_ble_eq_true rfl) rfl lf_X5_27 ?_
            refine ao_ldc (v := 65536) dX5_change_43 lk_X5_52 ?_
            refine ao_icmp_ge 103 dX5_change_45 (by decide) (fun c13 => ?_) (fun c13 => ?_)
            · replace h := ao_ifT h c13
              exact ih.2.2.2.2.2.2 r0 x1 x2 M11 ρ _ h
            · replace h := ao_ifF h c13
              refine ao_aload_n 0 dX5_change_48 rfl rfl ?_
              refine ao_aload_n 0 dX5_change_49 rfl rfl ?_
              refine an_getI r0 5 9 (q := (RX5, TX5, 11)) dX5_change_50 rfl hk3 (Nat.le_of_ble_eq_true rfl) rfl lf_X5_27 ?_
              refine ao_iconst (v := 2) dX5_change_53 (by decide) ?_
              refine ao_imul dX5_change_54 ?_
              refine an_putI r0 5 9 (q := (RX5, TX5, 11)) dX5_change_55 rfl hk3 (Nat.le_of_ble_eq_true rfl) lf_X5_27 rfl rfl rfl rfl (fun M14 hM14 => ?_)
              replace h := ao_letD h hM14
              refine ao_aload_n 0 dX5_change_58 rfl rfl ?_
              refine ao_aload_n 0 dX5_change_59 rfl rfl ?_
              obtain ⟨j15, hj15, h⟩ := ao_bind h
              refine an_getR r0 5 6 (q := (RX5, TX5, 11)) dX5_change_60 rfl hk3 (Nat.le_of_ble_eq_true rfl) rfl lf_X5_31 hj15 ?_
              refine ao_aload_n 0 dX5_change_63 rfl rfl ?_
              refine an_getI r0 5 9 (q := (RX5, TX5, 11)) dX5_change_64 rfl hk3 (Nat.le_of_ble_eq_true rfl) rfl lf_X5_27 ?_
              obtain ⟨p16, hp16, h⟩ := ao_bind h
              refine ba_callSr [.ref (Γ.2.2.2 + j15), .int (M14 r0 9)] (aJ7_copyOf_59c91 (d - 1) (by omega) n j15 (M14 r0 9) M14 ρ hp16) dX5_change_67 lc_X5_53 lt_J7_copyOf_59c91 rfl rfl (Nat.le_of_ble_eq_true rfl) (ao_hR (by omega) (by decide)) (ao_leC (me_J7_copyOf_59c91 n j15 (M14 r0 9) M14 ρ hp16) ((mX5_change n).2.1 r0 x1 x2 p16.1 r0 p16.2.1 p16.2.2 _ h)) (ao_leS (me_J7_copyOf_59c91 n j15 (M14 r0 9) M14 ρ hp16) ((mX5_change n).2.1 r0 x1 x2 p16.1 r0 p16.2.1 p16.2.2 _ h)) ?_
              exact ih.2.1 r0 x1 x2 p16.1 r0 p16.2.1 p16.2.2 _ h
        · replace h := ao_ifF h c2
          cases h
          exact ao_return dX5_change_10 rfl ⟨rfl, rfl⟩
    · intro r0 x1 x2 q0 q1 M ρ y h
      replace h := ao_ifF h (by decide)
      replace h := ao_ifT h rfl
      obtain ⟨hk17, h⟩ := ao_some h
      refine ba_putR q1 5 6 (q := (RX5, TX5, 11)) dX5_change_70 rfl hk17 (Nat.le_of_ble_eq_true rfl) lf_X5_31 (Or.inl rfl) rfl rfl rfl ?_
      exact ih.2.2.1 r0 x1 x2 M (ao_r ρ q1 6 (some q0)) _ h
    · intro r0 x1 x2 M ρ y h
      replace h := ao_ifF h (by decide)
      replace h := ao_ifF h (by decide)
      replace h := ao_ifT h rfl
      refine ao_aload_n 0 dX5_change_73 rfl rfl ?_
      refine ao_aload_n 0 dX5_change_74 rfl rfl ?_
      obtain ⟨hk18, h⟩ := ao_some h
      obtain ⟨j19, hj19, h⟩ := ao_bind h
      refine an_getR r0 5 7 (q := (RX5, TX5, 11)) dX5_change_75 rfl hk18 (Nat.le_of_ble_eq_true rfl) rfl lf_X5_34 hj19 ?_
      refine ao_aload_n 0 dX5_change_78 rfl rfl ?_
      refine an_getI r0 5 9 (q := (RX5, TX5, 11)) dX5_change_79 rfl hk18 (Nat.le_of_ble_eq_true rfl) rfl lf_X5_27 ?_
      obtain ⟨p20, hp20, h⟩ := ao_bind h
      refine ba_callSr [.ref (Γ.2.2.2 + j19), .int (M r0 9)] (aJ7_copyOf_59c91 (d - 1) (by omega) n j19 (M r0 9) M ρ hp20) dX5_change_82 lc_X5_53 lt_J7_copyOf_59c91 rfl rfl (Nat.le_of_ble_eq_true rfl) (ao_hR (by omega) (by decide)) (ao_leC (me_J7_copyOf_59c91 n j19 (M r0 9) M ρ hp20) ((mX5_change n).2.2.2.1 r0 x1 x2 p20.1 r0 p20.2.1 p20.2.2 _ h)) (ao_leS (me_J7_copyOf_59c91 n j19 (M r0 9) M ρ hp20) ((mX5_change n).2.2.2.1 r0 x1 x2 p20.1 r0 p20.2.1 p20.2.2 _ h)) ?_
      exact ih.2.2.2.1 r0 x1 x2 p20.1 r0 p20.2.1 p20.2.2 _ h
    · intro r0 x1 x2 q0 q1 M ρ y h
      replace h := ao_ifF h (by decide)
      replace h := ao_ifF h (by decide)
      replace h := ao_ifF h (by decide)
      replace h := ao_ifT h rfl
      obtain ⟨hk21, h⟩ := ao_some h
      refine ba_putR q1 5 7 (q := (RX5, TX5, 11)) dX5_change_85 rfl hk21 (Nat.le_of_ble_eq_true rfl) lf_X5_34 (Or.inl rfl) rfl rfl rfl ?_
      exact ih.2.2.2.2.1 r0 x1 x2 M (ao_r ρ q1 7 (some q0)) _ h
    · intro r0 x1 x2 M ρ y h
      replace h := ao_ifF h (by decide)
      replace h := ao_ifF h (by decide)
      replace h := ao_ifF h (by decide)
      replace h := ao_ifF h (by decide)
      replace h := ao_ifT h rfl
      refine ao_aload_n 0 dX5_change_88 rfl rfl ?_
      refine ao_aload_n 0 dX5_change_89 rfl rfl ?_
      obtain ⟨hk22, h⟩ := ao_some h
      obtain ⟨j23, hj23, h⟩ := ao_bind h
      refine an_getR r0 5 8 (q := (RX5, TX5, 11)) dX5_change_90 rfl hk22 (Nat.le_of_ble_eq_true rfl) rfl lf_X5_37 hj23 ?_
      refine ao_aload_n 0 dX5_change_93 rfl rfl ?_
      refine an_getI r0 5 9 (q := (RX5, TX5, 11)) dX5_change_94 rfl hk22 (Nat.le_of_ble_eq_true rfl) rfl lf_X5_27 ?_
      obtain ⟨p24, hp24, h⟩ := ao_bind h
      refine ba_callSr [.ref (Γ.2.2.2 + j23), .int (M r0 9)] (aJ7_copyOf_59c91 (d - 1) (by omega) n j23 (M r0 9) M ρ hp24) dX5_change_97 lc_X5_53 lt_J7_copyOf_59c91 rfl rfl (Nat.le_of_ble_eq_true rfl) (ao_hR (by omega) (by decide)) (ao_leC (me_J7_copyOf_59c91 n j23 (M r0 9) M ρ hp24) ((mX5_change n).2.2.2.2.2.1 r0 x1 x2 p24.1 r0 p24.2.1 p24.2.2 _ h)) (ao_leS (me_J7_copyOf_59c91 n j23 (M r0 9) M ρ hp24) ((mX5_change n).2.2.2.2.2.1 r0 x1 x2 p24.1 r0 p24.2.1 p24.2.2 _ h)) ?_
      exact ih.2.2.2.2.2.1 r0 x1 x2 p24.1 r0 p24.2.1 p24.2.2 _ h
    · intro r0 x1 x2 q0 q1 M ρ y h
      replace h := ao_ifF h (by decide)
      replace h := ao_ifF h (by decide)
      replace h := ao_ifF h (by decide)
      replace h := ao_ifF h (by decide)
      replace h := ao_ifF h (by decide)
      replace h := ao_ifT h rfl
      obtain ⟨hk25, h⟩ := ao_some h
      refine ba_putR q1 5 8 (q := (RX5, TX5, 11)) dX5_change_100 rfl hk25 (Nat.le_of_ble_eq_true rfl) lf_X5_37 (Or.inl rfl) rfl rfl rfl ?_
      exact ih.2.2.2.2.2.2 r0 x1 x2 M (ao_r ρ q1 8 (some q0)) _ h
    · intro r0 x1 x2 M ρ y h
      replace h := ao_ifF h (by decide)
      replace h := ao_ifF h (by decide)
      replace h := ao_ifF h (by decide)
      replace h := ao_ifF h (by decide)
      replace h := ao_ifF h (by decide)
      replace h := ao_ifF h (by decide)
      replace h := ao_ifT h rfl
      refine ao_aload_n 0 dX5_change_103 rfl rfl ?_
      obtain ⟨hk26, h⟩ := ao_some h
      refine an_getI r0 5 10 (q := (RX5, TX5, 11)) dX5_change_104 rfl hk26 (Nat.le_of_ble_eq_true rfl) rfl lf_X5_49 ?_
      refine ao_if_lt 179 dX5_change_107 (by decide) (fun c27 => ?_) (fun c27 => ?_)
      · replace h := ao_ifT h c27
        cases h
        exact ao_return dX5_change_179 rfl ⟨rfl, rfl⟩
      · replace h := ao_ifF h c27
        refine ao_aload_n 0 dX5_change_110 rfl rfl ?_
        refine an_getI r0 5 10 (q := (RX5, TX5, 11)) dX5_change_111 rfl hk26 (Nat.le_of_ble_eq_true rfl) rfl lf_X5_49 ?_
        refine ao_aload_n 0 dX5_change_114 rfl rfl ?_
        refine an_getI r0 5 9 (q := (RX5, TX5, 11)) dX5_change_115 rfl hk26 (Nat.le_of_ble_eq_true rfl) rfl lf_X5_27 ?_
        refine ao_icmp_ge 179 dX5_change_118 (by decide) (fun c28 => ?_) (fun c28 => ?_)
        · replace h := ao_ifT h c28
          cases h
          exact ao_return dX5_change_179 rfl ⟨rfl, rfl⟩
        · replace h := ao_ifF h c28
          refine ao_aload_n 0 dX5_change_121 rfl rfl ?_
          obtain ⟨j29, hj29, h⟩ := ao_bind h
          refine an_getR r0 5 6 (q := (RX5, TX5, 11)) dX5_change_122 rfl hk26 (Nat.le_of_ble_eq_true rfl) rfl lf_X5_31 hj29 ?_
          refine ao_aload_n 0 dX5_change_125 rfl rfl ?_
          refine an_getI r0 5 10 (q := (RX5, TX5, 11)) dX5_change_126 rfl hk26 (Nat.le_of_ble_eq_true rfl) rfl lf_X5_49 ?_
          refine ao_aload_n 0 dX5_change_129 rfl rfl ?_
          refine an_getI r0 5 4 (q := (RX5, TX5, 11)) dX5_change_130 rfl hk26 (Nat.le_of_ble_eq_true rfl) rfl lf_X5_46 ?_
          obtain ⟨hk30, h⟩ := ao_some h
          obtain ⟨hb31, h⟩ := ao_some h
          refine an_iastore j29 dX5_change_133 hk30 hb31 (fun M32 hM32 => ?_)
          replace h := ao_letD h hM32
          refine ao_aload_n 0 dX5_change_134 rfl rfl ?_
          obtain ⟨j33, hj33, h⟩ := ao_bind h
          refine an_getR r0 5 7 (q := (RX5, TX5, 11)) dX5_change_135 rfl hk26 (Nat.le_of_ble_eq_true rfl) rfl lf_X5_34 hj33 ?_
          refine ao_aload_n 0 dX5_change_138 rfl rfl ?_
          refine an_getI r0 5 10 (q := (RX5, TX5, 11)) dX5_change_139 rfl hk26 (Nat.le_of_ble_eq_true rfl) rfl lf_X5_49 ?_
          refine ao_iload_n 2 dX5_change_142 rfl rfl ?_
          obtain ⟨hk34, h⟩ := ao_some h
          obtain ⟨hb35, h⟩ := ao_some h
          refine an_iastore j33 dX5_change_143 hk34 hb35 (fun M36 hM36 => ?_)
          replace h := ao_letD h hM36
          refine ao_aload_n 0 dX5_change_144 rfl rfl ?_
          obtain ⟨j37, hj37, h⟩ := ao_bind h
          refine an_getR r0 5 8 (q := (RX5, TX5, 11)) dX5_change_145 rfl hk26 (Nat.le_of_ble_eq_true rfl) rfl lf_X5_37 hj37 ?_
          refine ao_aload_n 0 dX5_change_148 rfl rfl ?_
          refine an_getI r0 5 10 (q := (RX5, TX5, 11)) dX5_change_149 rfl hk26 (Nat.le_of_ble_eq_true rfl) rfl lf_X5_49 ?_
          refine ao_aload_n 0 dX5_change_152 rfl rfl ?_
          obtain ⟨j38, hj38, h⟩ := ao_bind h
          refine an_getR r0 5 5 (q := (RX5, TX5, 11)) dX5_change_153 rfl hk26 (Nat.le_of_ble_eq_true rfl) rfl lf_X5_24 hj38 ?_
          refine ao_iload_n 1 dX5_change_156 rfl rfl ?_
          obtain ⟨hk39, h⟩ := ao_some h
          obtain ⟨hb40, h⟩ := ao_some h
          refine an_iaload j38 dX5_change_157 hk39 hb40 ?_
          obtain ⟨hk41, h⟩ := ao_some h
          obtain ⟨hb42, h⟩ := ao_some h
          refine an_iastore j37 dX5_change_158 hk41 hb42 (fun M43 hM43 => ?_)
          replace h := ao_letD h hM43
          refine ao_aload_n 0 dX5_change_159 rfl rfl ?_
          refine an_getR r0 5 5 (q := (RX5, TX5, 11)) dX5_change_160 rfl hk26 (Nat.le_of_ble_eq_true rfl) rfl lf_X5_24 hj38 ?_
          refine ao_iload_n 1 dX5_change_163 rfl rfl ?_
          refine ao_aload_n 0 dX5_change_164 rfl rfl ?_
          refine an_getI r0 5 10 (q := (RX5, TX5, 11)) dX5_change_165 rfl hk26 (Nat.le_of_ble_eq_true rfl) rfl lf_X5_49 ?_
          refine an_iastore j38 dX5_change_168 hk39 hb40 (fun M44 hM44 => ?_)
          replace h := ao_letD h hM44
          refine ao_aload_n 0 dX5_change_169 rfl rfl ?_
          refine ao_dup dX5_change_170 rfl ?_
          refine an_getI r0 5 10 (q := (RX5, TX5, 11)) dX5_change_171 rfl hk26 (Nat.le_of_ble_eq_true rfl) rfl lf_X5_49 ?_
          refine ao_iconst (v := 1) dX5_change_174 (by decide) ?_
          refine ao_iadd dX5_change_175 ?_
          refine an_putI r0 5 10 (q := (RX5, TX5, 11)) dX5_change_176 rfl hk26 (Nat.le_of_ble_eq_true rfl) lf_X5_49 rfl rfl rfl rfl (fun M45 hM45 => ?_)
          replace h := ao_letD h hM45
          cases h
          exact ao_return dX5_change_179 rfl ⟨rfl, rfl⟩
theorem me_X5_change (n : Nat) (r0 : Nat) (x1 : Int32) (x2 : Int32) (M : ao_M) (ρ : ao_H) {y : ao_S} (h : gX5_change n r0 x1 x2 M ρ = some y) : ao_le ρ y.2 := (mX5_change n).1 r0 x1 x2 M ρ y h
set_option maxRecDepth 100000 in
set_option maxHeartbeats 4000000 in
theorem aX5_change {Γ : ao_C} (d : Nat) (hd : 2 ≤ d) (n : Nat) (r0 : Nat) (x1 : Int32) (x2 : Int32) (M : ao_M) (ρ : ao_H) {y : ao_S} (h : gX5_change n r0 x1 x2 M ρ = some y) : ao_A Γ uX5_change d (ao_dc ρ y.2) (ao_ds ρ y.2) [.ref (Γ.2.2.2 + r0), .int x1, .int x2] (M, ρ) (ao_QV y) := by
  refine ao_of (by decide) (ao_cat1 (Nat.le_of_ble_eq_true rfl)) (Nat.le_of_ble_eq_true rfl) ?_
  show ao_W Γ uX5_change (ao_rm d (ao_dc ρ y.2) (ao_ds ρ y.2)) (ao_Q Γ (ao_QV y) (ao_dc ρ y.2) (ao_ds ρ y.2)) (ao_dc ρ y.2) (ao_ds ρ y.2) 0 [some (.ref (Γ.2.2.2 + r0)), some (.int x1), some (.int x2)] [] (M, ρ)
  exact (wX5_change d hd _ _ n).1 r0 x1 x2 M ρ y h
