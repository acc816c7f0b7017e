abbrev uX12_step : ao_Mi := (yX12_step, cX12_step, 7, (some .int), [])
def fX12_step : Nat → Nat → Nat → Int32 → Int32 → Int32 → Int32 → Int32 → Int32 → Int32 → Int32 → Nat →  ao_M → ao_H → Option (Int32 × ao_S)
  | 0, _, _, _, _, _, _, _, _, _, _, _, _, _ => none
  | n + 1, pc, r0, x1, x2, x3, x4, x5, x6, s0, s1, q2, M, ρ =>
    if pc = 0 then
      if ρ.2.1 r0 = 22 then
      (ρ.1 r0 30).bind fun j2 =>
      if ρ.2.1 j2 = 0 then
      if ¬ (x1 < 0 ∨ ρ.2.2.1 j2 ≤ x1.toNatClampNeg) then
      ao_let (((x1 * (6000 : Int32)) + (M j2 x1.toNatClampNeg)) * (3 : Int32)) fun v5 =>
      (ρ.1 r0 28).bind fun j6 =>
      if ρ.2.1 j6 = 0 then
      if ¬ ((v5 + (1 : Int32)) < 0 ∨ ρ.2.2.1 j6 ≤ (v5 + (1 : Int32)).toNatClampNeg) then
      ao_let (M j6 (v5 + (1 : Int32)).toNatClampNeg) fun v9 =>
      if ¬ ((v5 + (2 : Int32)) < 0 ∨ ρ.2.2.1 j6 ≤ (v5 + (2 : Int32)).toNatClampNeg) then
      ao_let (M j6 (v5 + (2 : Int32)).toNatClampNeg) fun v11 =>
      if ¬ (v5 < 0 ∨ ρ.2.2.1 j6 ≤ v5.toNatClampNeg) then
      ao_let (M j6 v5.toNatClampNeg) fun v13 =>
      if v13 = (0 : Int32) then
        (gX12_push r0 x1 v9 M ρ).bind fun p15 =>
        fX12_step n 558 r0 x1 v5 v9 v11 0 0 0 0 0 p15 ρ
      else
        if v13 = (1 : Int32) then
          (ρ.1 r0 31).bind fun j17 =>
          if ρ.2.1 j17 = 0 then
          if ¬ (((x1 * (26 : Int32)) + v9) < 0 ∨ ρ.2.2.1 j17 ≤ ((x1 * (26 : Int32)) + v9).toNatClampNeg) then
          (gX12_push r0 x1 (M j17 ((x1 * (26 : Int32)) + v9).toNatClampNeg) M ρ).bind fun p20 =>
          fX12_step n 558 r0 x1 v5 v9 v11 0 0 0 0 0 p20 ρ
          else none
          else none
        else
          if v13 = (2 : Int32) then
            (gX12_doLook n r0 x1 v9 M ρ).bind fun p22 =>
            fX12_step n 178 r0 x1 v5 v9 v11 0 0 p22.1 0 0 p22.2.1 p22.2.2
          else
            if v13 = (3 : Int32) then
              fX12_step n 193 r0 x1 v5 v9 v11 0 0 0 0 0 M ρ
            else
              if v13 = (4 : Int32) then
                fX12_step n 193 r0 x1 v5 v9 v11 0 0 0 0 0 M ρ
              else
                if v13 = (5 : Int32) then
                  fX12_step n 193 r0 x1 v5 v9 v11 0 0 0 0 0 M ρ
                else
                  if v13 = (6 : Int32) then
                    (gX12_pop r0 x1 M ρ).bind fun p27 =>
                    (gX12_push r0 x1 (-p27.1) p27.2 ρ).bind fun p28 =>
                    fX12_step n 558 r0 x1 v5 v9 v11 0 0 0 0 0 p28 ρ
                  else
                    if v13 = (7 : Int32) then
                      fX12_step n 193 r0 x1 v5 v9 v11 0 0 0 0 0 M ρ
                    else
                      if v13 = (8 : Int32) then
                        fX12_step n 193 r0 x1 v5 v9 v11 0 0 0 0 0 M ρ
                      else
                        if v13 = (9 : Int32) then
                          (ρ.1 r0 31).bind fun j32 =>
                          (gX12_pop r0 x1 M ρ).bind fun p33 =>
                          if ρ.2.1 j32 = 0 then
                          if ¬ (((x1 * (26 : Int32)) + v9) < 0 ∨ ρ.2.2.1 j32 ≤ ((x1 * (26 : Int32)) + v9).toNatClampNeg) then
                          ao_let (ao_u p33.2 j32 ((x1 * (26 : Int32)) + v9).toNatClampNeg p33.1) fun M36 =>
                          fX12_step n 558 r0 x1 v5 v9 v11 0 0 0 0 0 M36 ρ
                          else none
                          else none
                        else
                          if v13 = (10 : Int32) then
                            (gX12_doWrite n r0 x1 v9 M ρ).bind fun p38 =>
                            fX12_step n 332 r0 x1 v5 v9 v11 0 0 p38.1 0 0 p38.2.1 p38.2.2
                          else
                            if v13 = (11 : Int32) then
                              (gX12_pop r0 x1 M ρ).bind fun p40 =>
                              if p40.1 = 0 then
                                ao_let (ao_u p40.2 j2 x1.toNatClampNeg v9) fun M42 =>
                                some ((-1 : Int32), M42, ρ)
                              else
                                fX12_step n 558 r0 x1 v5 v9 v11 0 0 0 0 0 p40.2 ρ
                            else
                              if v13 = (12 : Int32) then
                                ao_let (ao_u M j2 x1.toNatClampNeg v9) fun M44 =>
                                some ((-1 : Int32), M44, ρ)
                              else
                                if v13 = (13 : Int32) then
                                  ao_let (ao_u M j2 x1.toNatClampNeg ((M j2 x1.toNatClampNeg) + (1 : Int32))) fun M46 =>
                                  some ((0 : Int32), M46, ρ)
                                else
                                  if v13 = (14 : Int32) then
                                    (gX12_pop r0 x1 M ρ).bind fun p48 =>
                                    ao_let p48.1 fun v49 =>
                                    ao_let (ao_u p48.2 j2 x1.toNatClampNeg ((p48.2 j2 x1.toNatClampNeg) + (1 : Int32))) fun M50 =>
                                    (ρ.1 r0 29).bind fun j51 =>
                                    if ρ.2.1 j51 = 0 then
                                    if ¬ (x1 < 0 ∨ ρ.2.2.1 j51 ≤ x1.toNatClampNeg) then
                                    if (M50 j51 x1.toNatClampNeg) = (2 : Int32) then
                                      (ρ.1 r0 34).bind fun j55 =>
                                      if ρ.2.1 j55 = 0 then
                                      if ¬ (x1 < 0 ∨ ρ.2.2.1 j55 ≤ x1.toNatClampNeg) then
                                      (gX12_level r0 x1 ((M50 j55 x1.toNatClampNeg) - (1 : Int32)) M50 ρ).bind fun p58 =>
                                      (gX12_hold r0 p58.1 v49 p58.2 ρ).bind fun p59 =>
                                      some ((0 : Int32), p59, ρ)
                                      else none
                                      else none
                                    else
                                      (gX12_say r0 x1 v49 M50 ρ).bind fun p60 =>
                                      some ((0 : Int32), p60, ρ)
                                    else none
                                    else none
                                  else
                                    if v13 = (15 : Int32) then
                                      (gX12_beginBlock n r0 x1 v9 v11 M ρ).bind fun p62 =>
                                      some (p62.1, p62.2, ρ)
                                    else
                                      if v13 = (16 : Int32) then
                                        (gX12_endBlock n r0 x1 M ρ).bind fun p64 =>
                                        fX12_step n 443 r0 x1 v5 v9 v11 0 0 p64.1 0 0 p64.2.1 p64.2.2
                                      else
                                        if v13 = (17 : Int32) then
                                          (gX12_retry n r0 x1 M ρ).bind fun p66 =>
                                          fX12_step n 449 r0 x1 v5 v9 v11 0 0 p66.1 0 0 p66.2.1 p66.2.2
                                        else
                                          if v13 = (18 : Int32) then
                                            (gX12_quit n r0 x1 M ρ).bind fun p68 =>
                                            fX12_step n 455 r0 x1 v5 v9 v11 0 0 p68.1 0 0 p68.2.1 p68.2.2
                                          else
                                            if v13 = (19 : Int32) then
                                              (gX12_pop r0 x1 M ρ).bind fun p70 =>
                                              (gX12_fail n r0 x1 p70.1 p70.2 ρ).bind fun p71 =>
                                              fX12_step n 466 r0 x1 v5 v9 v11 0 0 p71.1 0 0 p71.2.1 p71.2.2
                                            else
                                              if v13 = (20 : Int32) then
                                                (ρ.1 r0 36).bind fun j73 =>
                                                if ρ.2.1 j73 = 0 then
                                                if ¬ (x1 < 0 ∨ ρ.2.2.1 j73 ≤ x1.toNatClampNeg) then
                                                (gX12_level r0 x1 (M j73 x1.toNatClampNeg) M ρ).bind fun p76 =>
                                                ao_let p76.1 fun v77 =>
                                                (ρ.1 r0 44).bind fun j78 =>
                                                if ρ.2.1 j78 = 0 then
                                                if ¬ (v77 < 0 ∨ ρ.2.2.1 j78 ≤ v77.toNatClampNeg) then
                                                ao_let (ao_u p76.2 j78 v77.toNatClampNeg v9) fun M81 =>
                                                (ρ.1 r0 45).bind fun j82 =>
                                                if ρ.2.1 j82 = 0 then
                                                if ¬ (v77 < 0 ∨ ρ.2.2.1 j82 ≤ v77.toNatClampNeg) then
                                                ao_let (ao_u M81 j82 v77.toNatClampNeg v11) fun M85 =>
                                                (ρ.1 r0 46).bind fun j86 =>
                                                (ρ.1 r0 34).bind fun j87 =>
                                                if ρ.2.1 j87 = 0 then
                                                if ¬ (x1 < 0 ∨ ρ.2.2.1 j87 ≤ x1.toNatClampNeg) then
                                                if ρ.2.1 j86 = 0 then
                                                if ¬ (v77 < 0 ∨ ρ.2.2.1 j86 ≤ v77.toNatClampNeg) then
                                                ao_let (ao_u M85 j86 v77.toNatClampNeg (M85 j87 x1.toNatClampNeg)) fun M92 =>
                                                (ρ.1 r0 47).bind fun j93 =>
                                                (ρ.1 r0 35).bind fun j94 =>
                                                if ρ.2.1 j94 = 0 then
                                                if ¬ (x1 < 0 ∨ ρ.2.2.1 j94 ≤ x1.toNatClampNeg) then
                                                if ρ.2.1 j93 = 0 then
                                                if ¬ (v77 < 0 ∨ ρ.2.2.1 j93 ≤ v77.toNatClampNeg) then
                                                ao_let (ao_u M92 j93 v77.toNatClampNeg (M92 j94 x1.toNatClampNeg)) fun M99 =>
                                                ao_let (ao_u M99 j73 x1.toNatClampNeg ((M99 j73 x1.toNatClampNeg) + (1 : Int32))) fun M100 =>
                                                fX12_step n 558 r0 x1 v5 v9 v11 0 0 0 0 0 M100 ρ
                                                else none
                                                else none
                                                else none
                                                else none
                                                else none
                                                else none
                                                else none
                                                else none
                                                else none
                                                else none
                                                else none
                                                else none
                                                else none
                                                else none
                                              else
                                                if v13 = (21 : Int32) then
                                                  (ρ.1 r0 36).bind fun j102 =>
                                                  if ρ.2.1 j102 = 0 then
                                                  if ¬ (x1 < 0 ∨ ρ.2.2.1 j102 ≤ x1.toNatClampNeg) then
                                                  ao_let (ao_u M j102 x1.toNatClampNeg ((M j102 x1.toNatClampNeg) - (1 : Int32))) fun M105 =>
                                                  fX12_step n 558 r0 x1 v5 v9 v11 0 0 0 0 0 M105 ρ
                                                  else none
                                                  else none
                                                else
                                                  (ρ.1 r0 29).bind fun j106 =>
                                                  if ρ.2.1 j106 = 0 then
                                                  if ¬ (x1 < 0 ∨ ρ.2.2.1 j106 ≤ x1.toNatClampNeg) then
                                                  ao_let (ao_u M j106 x1.toNatClampNeg (4 : Int32)) fun M109 =>
                                                  some ((2 : Int32), M109, ρ)
                                                  else none
                                                  else none
      else none
      else none
      else none
      else none
      else none
      else none
      else none
    else if pc = 178 then
      some (s0, M, ρ)
    else if pc = 193 then
      if ρ.2.1 r0 = 22 then
      (gX12_pop r0 x1 M ρ).bind fun p111 =>
      ao_let p111.1 fun v112 =>
      (gX12_pop r0 x1 p111.2 ρ).bind fun p113 =>
      ao_let p113.1 fun v114 =>
      (ρ.1 r0 28).bind fun j115 =>
      if ρ.2.1 j115 = 0 then
      if ¬ (x2 < 0 ∨ ρ.2.2.1 j115 ≤ x2.toNatClampNeg) then
      if (p113.2 j115 x2.toNatClampNeg) = (3 : Int32) then
        fX12_step n 301 r0 x1 x2 x3 x4 v112 v114 (v114 + v112) x1 r0 p113.2 ρ
      else
        if (p113.2 j115 x2.toNatClampNeg) = (4 : Int32) then
          fX12_step n 301 r0 x1 x2 x3 x4 v112 v114 (v114 - v112) x1 r0 p113.2 ρ
        else
          if (p113.2 j115 x2.toNatClampNeg) = (5 : Int32) then
            fX12_step n 301 r0 x1 x2 x3 x4 v112 v114 (v114 * v112) x1 r0 p113.2 ρ
          else
            if (p113.2 j115 x2.toNatClampNeg) = (7 : Int32) then
              if v114 = v112 then
                fX12_step n 301 r0 x1 x2 x3 x4 v112 v114 (1 : Int32) x1 r0 p113.2 ρ
              else
                fX12_step n 301 r0 x1 x2 x3 x4 v112 v114 (0 : Int32) x1 r0 p113.2 ρ
            else
              if v112 ≤ v114 then
                fX12_step n 301 r0 x1 x2 x3 x4 v112 v114 (0 : Int32) x1 r0 p113.2 ρ
              else
                fX12_step n 301 r0 x1 x2 x3 x4 v112 v114 (1 : Int32) x1 r0 p113.2 ρ
      else none
      else none
      else none
    else if pc = 301 then
      if ρ.2.1 q2 = 22 then
      (gX12_push q2 s1 s0 M ρ).bind fun p125 =>
      fX12_step n 558 r0 x1 x2 x3 x4 0 0 0 0 0 p125 ρ
      else none
    else if pc = 332 then
      some (s0, M, ρ)
    else if pc = 443 then
      some (s0, M, ρ)
    else if pc = 449 then
      some (s0, M, ρ)
    else if pc = 455 then
      some (s0, M, ρ)
    else if pc = 466 then
      some (s0, M, ρ)
    else if pc = 558 then
      if ρ.2.1 r0 = 22 then
      (ρ.1 r0 30).bind fun j127 =>
      if ρ.2.1 j127 = 0 then
      if ¬ (x1 < 0 ∨ ρ.2.2.1 j127 ≤ x1.toNatClampNeg) then
      ao_let (ao_u M j127 x1.toNatClampNeg ((M j127 x1.toNatClampNeg) + (1 : Int32))) fun M130 =>
      some ((-1 : Int32), M130, ρ)
      else none
      else none
      else none
    else none
def gX12_step (n : Nat) (r0 : Nat) (x1 : Int32) (M : ao_M) (ρ : ao_H) : Option (Int32 × ao_S) := fX12_step n 0 r0 x1 0 0 0 0 0 0 0 0 M ρ
set_option maxRecDepth 100000 in
set_option maxHeartbeats 4000000 in
theorem mX12_step : ∀ n : Nat, (∀ (r0 : Nat) (x1 : Int32) (M : ao_M) (ρ : ao_H) (y : Int32 × ao_S), fX12_step n 0 r0 x1 0 0 0 0 0 0 0 0 M ρ = some y → ao_le ρ y.2.2) ∧ (∀ (r0 : Nat) (x1 : Int32) (x2 : Int32) (x3 : Int32) (x4 : Int32) (s0 : Int32) (M : ao_M) (ρ : ao_H) (y : Int32 × ao_S), fX12_step n 178 r0 x1 x2 x3 x4 0 0 s0 0 0 M ρ = some y → ao_le ρ y.2.2) ∧ (∀ (r0 : Nat) (x1 : Int32) (x2 : Int32) (x3 : Int32) (x4 : Int32) (M : ao_M) (ρ : ao_H) (y : Int32 × ao_S), fX12_step n 193 r0 x1 x2 x3 x4 0 0 0 0 0 M ρ = some y → ao_le ρ y.2.2) ∧ (∀ (r0 : Nat) (x1 : Int32) (x2 : Int32) (x3 : Int32) (x4 : Int32) (x5 : Int32) (x6 : Int32) (s0 : Int32) (s1 : Int32) (q2 : Nat) (M : ao_M) (ρ : ao_H) (y : Int32 × ao_S), fX12_step n 301 r0 x1 x2 x3 x4 x5 x6 s0 s1 q2 M ρ = some y → ao_le ρ y.2.2) ∧ (∀ (r0 : Nat) (x1 : Int32) (x2 : Int32) (x3 : Int32) (x4 : Int32) (s0 : Int32) (M : ao_M) (ρ : ao_H) (y : Int32 × ao_S), fX12_step n 332 r0 x1 x2 x3 x4 0 0 s0 0 0 M ρ = some y → ao_le ρ y.2.2) ∧ (∀ (r0 : Nat) (x1 : Int32) (x2 : Int32) (x3 : Int32) (x4 : Int32) (s0 : Int32) (M : ao_M) (ρ : ao_H) (y : Int32 × ao_S), fX12_step n 443 r0 x1 x2 x3 x4 0 0 s0 0 0 M ρ = some y → ao_le ρ y.2.2) ∧ (∀ (r0 : Nat) (x1 : Int32) (x2 : Int32) (x3 : Int32) (x4 : Int32) (s0 : Int32) (M : ao_M) (ρ : ao_H) (y : Int32 × ao_S), fX12_step n 449 r0 x1 x2 x3 x4 0 0 s0 0 0 M ρ = some y → ao_le ρ y.2.2) ∧ (∀ (r0 : Nat) (x1 : Int32) (x2 : Int32) (x3 : Int32) (x4 : Int32) (s0 : Int32) (M : ao_M) (ρ : ao_H) (y : Int32 × ao_S), fX12_step n 455 r0 x1 x2 x3 x4 0 0 s0 0 0 M ρ = some y → ao_le ρ y.2.2) ∧ (∀ (r0 : Nat) (x1 : Int32) (x2 : Int32) (x3 : Int32) (x4 : Int32) (s0 : Int32) (M : ao_M) (ρ : ao_H) (y : Int32 × ao_S), fX12_step n 466 r0 x1 x2 x3 x4 0 0 s0 0 0 M ρ = some y → ao_le ρ y.2.2) ∧ (∀ (r0 : Nat) (x1 : Int32) (x2 : Int32) (x3 : Int32) (x4 : Int32) (M : ao_M) (ρ : ao_H) (y : Int32 × ao_S), fX12_step n 558 r0 x1 x2 x3 x4 0 0 0 0 0 M ρ = some y → ao_le ρ y.2.2) := by
  intro n
  induction n with
  | zero => exact ⟨fun _ _ _ _ _ h => ao_no h, fun _ _ _ _ _ _ _ _ _ h => ao_no h, fun _ _ _ _ _ _ _ _ h => ao_no h, fun _ _ _ _ _ _ _ _ _ _ _ _ _ h => ao_no h, fun _ _ _ _ _ _ _ _ _ h => ao_no h, fun _ _ _ _ _ _ _ _ _ h => ao_no h, fun _ _ _ _ _ _ _ _ _ h => ao_no h, fun _ _ _ _ _ _ _ _ _ h => ao_no h, fun _ _ _ _ _ _ _ _ _ h => ao_no h, fun _ _ _ _ _ _ _ _ h => ao_no h⟩
  | succ n ih =>
    refine ⟨?_, ?_, ?_, ?_, ?_, ?_, ?_, ?_, ?_, ?_⟩
    · intro r0 x1 M ρ y h
      replace h := ao_ifT h rfl
      obtain ⟨-, h⟩ := ao_some h
      obtain ⟨j2, hj2, h⟩ := ao_bind h
      obtain ⟨-, h⟩ := ao_some h
      obtain ⟨-, h⟩ := ao_some h
      replace h := ao_letD h rfl
      generalize (((x1 * (6000 : Int32)) + (M j2 x1.toNatClampNeg)) * (3 : Int32)) = v5 at h
      obtain ⟨j6, hj6, h⟩ := ao_bind h
      obtain ⟨-, h⟩ := ao_some h
      obtain ⟨-, h⟩ := ao_some h
      replace h := ao_letD h rfl
      generalize (M j6 (v5 + (1 : Int32)).toNatClampNeg) = v9 at h
      obtain ⟨-, h⟩ := ao_some h
      replace h := ao_letD h rfl
      generalize (M j6 (v5 + (2 : Int32)).toNatClampNeg) = v11 at h
      obtain ⟨-, h⟩ := ao_some h
      replace h := ao_letD h rfl
      generalize (M j6 v5.toNatClampNeg) = v13 at h
      rcases ao_ifC h with h | h
      · obtain ⟨p15, hp15, h⟩ := ao_bind h
        exact ih.2.2.2.2.2.2.2.2.2 r0 x1 v5 v9 v11 p15 ρ _ h
      · rcases ao_ifC h with h | h
        · obtain ⟨j17, hj17, h⟩ := ao_bind h
          obtain ⟨-, h⟩ := ao_some h
          obtain ⟨-, h⟩ := ao_some h
          obtain ⟨p20, hp20, h⟩ := ao_bind h
          exact ih.2.2.2.2.2.2.2.2.2 r0 x1 v5 v9 v11 p20 ρ _ h
        · rcases ao_ifC h with h | h
          · obtain ⟨p22, hp22, h⟩ := ao_bind h
            exact ao_le_tr (me_X12_doLook n r0 x1 v9 M ρ hp22) (ih.2.1 r0 x1 v5 v9 v11 p22.1 p22.2.1 p22.2.2 _ h)
          · rcases ao_ifC h with h | h
            · exact ih.2.2.1 r0 x1 v5 v9 v11 M ρ _ h
            · rcases ao_ifC h with h | h
              · exact ih.2.2.1 r0 x1 v5 v9 v11 M ρ _ h
              · rcases ao_ifC h with h | h
                · exact ih.2.2.1 r0 x1 v5 v9 v11 M ρ _ h
                · rcases ao_ifC h with h | h
                  · obtain ⟨p27, hp27, h⟩ := ao_bind h
                    obtain ⟨p28, hp28, h⟩ := ao_bind h
                    exact ih.2.2.2.2.2.2.2.2.2 r0 x1 v5 v9 v11 p28 ρ _ h
                  · rcases ao_ifC h with h | h
                    · exact ih.2.2.1 r0 x1 v5 v9 v11 M ρ _ h
                    · rcases ao_ifC h with h | h
                      · exact ih.2.2.1 r0 x1 v5 v9 v11 M ρ _ h
                      · rcases ao_ifC h with h | h
                        · obtain ⟨j32, hj32, h⟩ := ao_bind h
                          obtain ⟨p33, hp33, h⟩ := ao_bind h
                          obtain ⟨-, h⟩ := ao_some h
                          obtain ⟨-, h⟩ := ao_some h
                          replace h := ao_letD h rfl
                          generalize (ao_u p33.2 j32 ((x1 * (26 : Int32)) + v9).toNatClampNeg p33.1) = M36 at h
                          exact ih.2.2.2.2.2.2.2.2.2 r0 x1 v5 v9 v11 M36 ρ _ h
                        · rcases ao_ifC h with h | h
                          · obtain ⟨p38, hp38, h⟩ := ao_bind h
                            exact ao_le_tr (me_X12_doWrite n r0 x1 v9 M ρ hp38) (ih.2.2.2.2.1 r0 x1 v5 v9 v11 p38.1 p38.2.1 p38.2.2 _ h)
                          · rcases ao_ifC h with h | h
                            · obtain ⟨p40, hp40, h⟩ := ao_bind h
                              rcases ao_ifC h with h | h
                              · replace h := ao_letD h rfl
                                generalize (ao_u p40.2 j2 x1.toNatClampNeg v9) = M42 at h
                                cases h
                                exact ao_le_rf _
                              · exact ih.2.2.2.2.2.2.2.2.2 r0 x1 v5 v9 v11 p40.2 ρ _ h
                            · rcases ao_ifC h with h | h
                              · replace h := ao_letD h rfl
                                generalize (ao_u M j2 x1.toNatClampNeg v9) = M44 at h
                                cases h
                                exact ao_le_rf _
                              · rcases ao_ifC h with h | h
                                · replace h := ao_letD h rfl
                                  generalize (ao_u M j2 x1.toNatClampNeg ((M j2 x1.toNatClampNeg) + (1 : Int32))) = M46 at h
                                  cases h
                                  exact ao_le_rf _
                                · rcases ao_ifC h with h | h
                                  · obtain ⟨p48, hp48, h⟩ := ao_bind h
                                    replace h := ao_letD h rfl
                                    generalize p48.1 = v49 at h
                                    replace h := ao_letD h rfl
                                    generalize (ao_u p48.2 j2 x1.toNatClampNeg ((p48.2 j2 x1.toNatClampNeg) + (1 : Int32))) = M50 at h
                                    obtain ⟨j51, hj51, h⟩ := ao_bind h
                                    obtain ⟨-, h⟩ := ao_some h
                                    obtain ⟨-, h⟩ := ao_some h
                                    rcases ao_ifC h with h | h
                                    · obtain ⟨j55, hj55, h⟩ := ao_bind h
                                      obtain ⟨-, h⟩ := ao_some h
                                      obtain ⟨-, h⟩ := ao_some h
                                      obtain ⟨p58, hp58, h⟩ := ao_bind h
                                      obtain ⟨p59, hp59, h⟩ := ao_bind h
                                      cases h
                                      exact ao_le_rf _
                                    · obtain ⟨p60, hp60, h⟩ := ao_bind h
                                      cases h
                                      exact ao_le_rf _
                                  · rcases ao_ifC h with h | h
                                    · obtain ⟨p62, hp62, h⟩ := ao_bind h
                                      cases h
                                      exact ao_le_rf _
                                    · rcases ao_ifC h with h | h
                                      · obtain ⟨p64, hp64, h⟩ := ao_bind h
                                        exact ao_le_tr (me_X12_endBlock n r0 x1 M ρ hp64) (ih.2.2.2.2.2.1 r0 x1 v5 v9 v11 p64.1 p64.2.1 p64.2.2 _ h)
                                      · rcases ao_ifC h with h | h
                                        · obtain ⟨p66, hp66, h⟩ := ao_bind h
                                          exact ao_le_tr (me_X12_retry n r0 x1 M ρ hp66) (ih.2.2.2.2.2.2.1 r0 x1 v5 v9 v11 p66.1 p66.2.1 p66.2.2 _ h)
                                        · rcases ao_ifC h with h | h
                                          · obtain ⟨p68, hp68, h⟩ := ao_bind h
                                            exact ao_le_tr (me_X12_quit n r0 x1 M ρ hp68) (ih.2.2.2.2.2.2.2.1 r0 x1 v5 v9 v11 p68.1 p68.2.1 p68.2.2 _ h)
                                          · rcases ao_ifC h with h | h
                                            · obtain ⟨p70, hp70, h⟩ := ao_bind h
                                              obtain ⟨p71, hp71, h⟩ := ao_bind h
                                              exact ao_le_tr (me_X12_fail n r0 x1 p70.1 p70.2 ρ hp71) (ih.2.2.2.2.2.2.2.2.1 r0 x1 v5 v9 v11 p71.1 p71.2.1 p71.2.2 _ h)
                                            · rcases ao_ifC h with h | h
                                              · obtain ⟨j73, hj73, h⟩ := ao_bind h
                                                obtain ⟨-, h⟩ := ao_some h
                                                obtain ⟨-, h⟩ := ao_some h
                                                obtain ⟨p76, hp76, h⟩ := ao_bind h
                                                replace h := ao_letD h rfl
                                                generalize p76.1 = v77 at h
                                                obtain ⟨j78, hj78, h⟩ := ao_bind h
                                                obtain ⟨-, h⟩ := ao_some h
                                                obtain ⟨-, h⟩ := ao_some h
                                                replace h := ao_letD h rfl
                                                generalize (ao_u p76.2 j78 v77.toNatClampNeg v9) = M81 at h
                                                obtain ⟨j82, hj82, h⟩ := ao_bind h
                                                obtain ⟨-, h⟩ := ao_some h
                                                obtain ⟨-, h⟩ := ao_some h
                                                replace h := ao_letD h rfl
                                                generalize (ao_u M81 j82 v77.toNatClampNeg v11) = M85 at h
                                                obtain ⟨j86, hj86, h⟩ := ao_bind h
                                                obtain ⟨j87, hj87, h⟩ := ao_bind h
                                                obtain ⟨-, h⟩ := ao_some h
                                                obtain ⟨-, h⟩ := ao_some h
                                                obtain ⟨-, h⟩ := ao_some h
                                                obtain ⟨-, h⟩ := ao_some h
                                                replace h := ao_letD h rfl
                                                generalize (ao_u M85 j86 v77.toNatClampNeg (M85 j87 x1.toNatClampNeg)) = M92 at h
                                                obtain ⟨j93, hj93, h⟩ := ao_bind h
                                                obtain ⟨j94, hj94, h⟩ := ao_bind h
                                                obtain ⟨-, h⟩ := ao_some h
                                                obtain ⟨-, h⟩ := ao_some h
                                                obtain ⟨-, h⟩ := ao_some h
                                                obtain ⟨-, h⟩ := ao_some h
                                                replace h := ao_letD h rfl
                                                generalize (ao_u M92 j93 v77.toNatClampNeg (M92 j94 x1.toNatClampNeg)) = M99 at h
                                                replace h := ao_letD h rfl
                                                generalize (ao_u M99 j73 x1.toNatClampNeg ((M99 j73 x1.toNatClampNeg) + (1 : Int32))) = M100 at h
                                                exact ih.2.2.2.2.2.2.2.2.2 r0 x1 v5 v9 v11 M100 ρ _ h
                                              · rcases ao_ifC h with h | h
                                                · obtain ⟨j102, hj102, h⟩ := ao_bind h
                                                  obtain ⟨-, h⟩ := ao_some h
                                                  obtain ⟨-, h⟩ := ao_some h
                                                  replace h := ao_letD h rfl
                                                  generalize (ao_u M j102 x1.toNatClampNeg ((M j102 x1.toNatClampNeg) - (1 : Int32))) = M105 at h
                                                  exact ih.2.2.2.2.2.2.2.2.2 r0 x1 v5 v9 v11 M105 ρ _ h
                                                · obtain ⟨j106, hj106, h⟩ := ao_bind h
                                                  obtain ⟨-, h⟩ := ao_some h
                                                  obtain ⟨-, h⟩ := ao_some h
                                                  replace h := ao_letD h rfl
                                                  generalize (ao_u M j106 x1.toNatClampNeg (4 : Int32)) = M109 at h
                                                  cases h
                                                  exact ao_le_rf _
    · intro r0 x1 x2 x3 x4 s0 M ρ y h
      replace h := ao_ifF h (by decide)
      replace h := ao_ifT h rfl
      cases h
      exact ao_le_rf _
    · intro r0 x1 x2 x3 x4 M ρ y h
      replace h := ao_ifF h (by decide)
      replace h := ao_ifF h (by decide)
      replace h := ao_ifT h rfl
      obtain ⟨-, h⟩ := ao_some h
      obtain ⟨p111, hp111, h⟩ := ao_bind h
      replace h := ao_letD h rfl
      generalize p111.1 = v112 at h
      obtain ⟨p113, hp113, h⟩ := ao_bind h
      replace h := ao_letD h rfl
      generalize p113.1 = v114 at h
      obtain ⟨j115, hj115, h⟩ := ao_bind h
      obtain ⟨-, h⟩ := ao_some h
      obtain ⟨-, h⟩ := ao_some h
      rcases ao_ifC h with h | h
      · exact ih.2.2.2.1 r0 x1 x2 x3 x4 v112 v114 (v114 + v112) x1 r0 p113.2 ρ _ h
      · rcases ao_ifC h with h | h
        · exact ih.2.2.2.1 r0 x1 x2 x3 x4 v112 v114 (v114 - v112) x1 r0 p113.2 ρ _ h
        · rcases ao_ifC h with h | h
          · exact ih.2.2.2.1 r0 x1 x2 x3 x4 v112 v114 (v114 * v112) x1 r0 p113.2 ρ _ h
          · rcases ao_ifC h with h | h
            · rcases ao_ifC h with h | h
              · exact ih.2.2.2.1 r0 x1 x2 x3 x4 v112 v114 (1 : Int32) x1 r0 p113.2 ρ _ h
              · exact ih.2.2.2.1 r0 x1 x2 x3 x4 v112 v114 (0 : Int32) x1 r0 p113.2 ρ _ h
            · rcases ao_ifC h with h | h
              · exact ih.2.2.2.1 r0 x1 x2 x3 x4 v112 v114 (0 : Int32) x1 r0 p113.2 ρ _ h
              · exact ih.2.2.2.1 r0 x1 x2 x3 x4 v112 v114 (1 : Int32) x1 r0 p113.2 ρ _ h
    · intro r0 x1 x2 x3 x4 x5 x6 s0 s1 q2 M ρ y h
      replace h := ao_ifF h (by decide)
      replace h := ao_ifF h (by decide)
      replace h := ao_ifF h (by decide)
      replace h := ao_ifT h rfl
      obtain ⟨-, h⟩ := ao_some h
      obtain ⟨p125, hp125, h⟩ := ao_bind h
      exact ih.2.2.2.2.2.2.2.2.2 r0 x1 x2 x3 x4 p125 ρ _ h
    · intro r0 x1 x2 x3 x4 s0 M ρ y h
      replace h := ao_ifF h (by decide)
      replace h := ao_ifF h (by decide)
      replace h := ao_ifF h (by decide)
      replace h := ao_ifF h (by decide)
      replace h := ao_ifT h rfl
      cases h
      exact ao_le_rf _
    · intro r0 x1 x2 x3 x4 s0 M ρ y h
      replace h := ao_ifF h (by decide)
      replace h := ao_ifF h (by decide)
      replace h := ao_ifF h (by decide)
      replace h := ao_ifF h (by decide)
      replace h := ao_ifF h (by decide)
      replace h := ao_ifT h rfl
      cases h
      exact ao_le_rf _
    · intro r0 x1 x2 x3 x4 s0 M ρ y h
      replace h := ao_ifF h (by decide)
      replace h := ao_ifF h (by decide)
      replace h := ao_ifF h (by decide)
      replace h := ao_ifF h (by decide)
      replace h := ao_ifF h (by decide)
      replace h := ao_ifF h (by decide)
      replace h := ao_ifT h rfl
      cases h
      exact ao_le_rf _
    · intro r0 x1 x2 x3 x4 s0 M ρ y h
      replace h := ao_ifF h (by decide)
      replace h := ao_ifF h (by decide)
      replace h := ao_ifF h (by decide)
      replace h := ao_ifF h (by decide)
      replace h := ao_ifF h (by decide)
      replace h := ao_ifF h (by decide)
      replace h := ao_ifF h (by decide)
      replace h := ao_ifT h rfl
      cases h
      exact ao_le_rf _
    · intro r0 x1 x2 x3 x4 s0 M ρ y h
      replace h := ao_ifF h (by decide)
      replace h := ao_ifF h (by decide)
      replace h := ao_ifF h (by decide)
      replace h := ao_ifF h (by decide)
      replace h := ao_ifF h (by decide)
      replace h := ao_ifF h (by decide)
      replace h := ao_ifF h (by decide)
      replace h := ao_ifF h (by decide)
      replace h := ao_ifT h rfl
      cases h
      exact ao_le_rf _
    · intro r0 x1 x2 x3 x4 M ρ y h
      replace h := ao_ifF h (by decide)
      replace h := ao_ifF h (by decide)
      replace h := ao_ifF h (by decide)
      replace h := ao_ifF h (by decide)
      replace h := ao_ifF h (by decide)
      replace h := ao_ifF h (by decide)
      replace h := ao_ifF h (by decide)
      replace h := ao_ifF h (by decide)
      replace h := ao_ifF h (by decide)
      replace h := ao_ifT h rfl
      obtain ⟨-, h⟩ := ao_some h
      obtain ⟨j127, hj127, h⟩ := ao_bind h
      obtain ⟨-, h⟩ := ao_some h
      obtain ⟨-, h⟩ := ao_some h
      replace h := ao_letD h rfl
      generalize (ao_u M j127 x1.toNatClampNeg ((M j127 x1.toNatClampNeg) + (1 : Int32))) = M130 at h
      cases h
      exact ao_le_rf _
set_option maxRecDepth 100000 in
set_option maxHeartbeats 4000000 in
theorem wX12_step {Γ : ao_C} (d : Nat) (hd : 8 ≤ d) (MC MS : Nat) : ∀ n : Nat, (∀ (r0 : Nat) (x1 : Int32) (M : ao_M) (ρ : ao_H) (y : Int32 × ao_S), fX12_step n 0 r0 x1 0 0 0 0 0 0 0 0 M ρ = some y → ao_W Γ uX12_step (ao_rm d MC MS) (ao_Q Γ (ao_QI y) MC MS) (ao_dc ρ y.2.2) (ao_ds ρ y.2.2) 0 [some (.ref (Γ.2.2.2 + r0)), some (.int x1), none, none, none, none, none] [] (M, ρ)) ∧ (∀ (r0 : Nat) (x1 : Int32) (x2 : Int32) (x3 : Int32) (x4 : Int32) (s0 : Int32) (M : ao_M) (ρ : ao_H) (y : Int32 × ao_S), fX12_step n 178 r0 x1 x2 x3 x4 0 0 s0 0 0 M ρ = some y → ao_W Γ uX12_step (ao_rm d MC MS) (ao_Q Γ (ao_QI y) MC MS) (ao_dc ρ y.2.2) (ao_ds ρ y.2.2) 178 [some (.ref (Γ.2.2.2 + r0)), some (.int x1), some (.int x2), some (.int x3), some (.int x4), none, none] [.int s0] (M, ρ)) ∧ (∀ (r0 : Nat) (x1 : Int32) (x2 : Int32) (x3 : Int32) (x4 : Int32) (M : ao_M) (ρ : ao_H) (y : Int32 × ao_S), fX12_step n 193 r0 x1 x2 x3 x4 0 0 0 0 0 M ρ = some y → ao_W Γ uX12_step (ao_rm d MC MS) (ao_Q Γ (ao_QI y) MC MS) (ao_dc ρ y.2.2) (ao_ds ρ y.2.2) 193 [some (.ref (Γ.2.2.2 + r0)), some (.int x1), some (.int x2), some (.int x3), some (.int x4), none, none] [] (M, ρ)) ∧ (∀ (r0 : Nat) (x1 : Int32) (x2 : Int32) (x3 : Int32) (x4 : Int32) (x5 : Int32) (x6 : Int32) (s0 : Int32) (s1 : Int32) (q2 : Nat) (M : ao_M) (ρ : ao_H) (y : Int32 × ao_S), fX12_step n 301 r0 x1 x2 x3 x4 x5 x6 s0 s1 q2 M ρ = some y → ao_W Γ uX12_step (ao_rm d MC MS) (ao_Q Γ (ao_QI y) MC MS) (ao_dc ρ y.2.2) (ao_ds ρ y.2.2) 301 [some (.ref (Γ.2.2.2 + r0)), some (.int x1), some (.int x2), some (.int x3), some (.int x4), some (.int x5), some (.int x6)] [.int s0, .int s1, .ref (Γ.2.2.2 + q2)] (M, ρ)) ∧ (∀ (r0 : Nat) (x1 : Int32) (x2 : Int32) (x3 : Int32) (x4 : Int32) (s0 : Int32) (M : ao_M) (ρ : ao_H) (y : Int32 × ao_S), fX12_step n 332 r0 x1 x2 x3 x4 0 0 s0 0 0 M ρ = some y → ao_W Γ uX12_step (ao_rm d MC MS) (ao_Q Γ (ao_QI y) MC MS) (ao_dc ρ y.2.2) (ao_ds ρ y.2.2) 332 [some (.ref (Γ.2.2.2 + r0)), some (.int x1), some (.int x2), some (.int x3), some (.int x4), none, none] [.int s0] (M, ρ)) ∧ (∀ (r0 : Nat) (x1 : Int32) (x2 : Int32) (x3 : Int32) (x4 : Int32) (s0 : Int32) (M : ao_M) (ρ : ao_H) (y : Int32 × ao_S), fX12_step n 443 r0 x1 x2 x3 x4 0 0 s0 0 0 M ρ = some y → ao_W Γ uX12_step (ao_rm d MC MS) (ao_Q Γ (ao_QI y) MC MS) (ao_dc ρ y.2.2) (ao_ds ρ y.2.2) 443 [some (.ref (Γ.2.2.2 + r0)), some (.int x1), some (.int x2), some (.int x3), some (.int x4), none, none] [.int s0] (M, ρ)) ∧ (∀ (r0 : Nat) (x1 : Int32) (x2 : Int32) (x3 : Int32) (x4 : Int32) (s0 : Int32) (M : ao_M) (ρ : ao_H) (y : Int32 × ao_S), fX12_step n 449 r0 x1 x2 x3 x4 0 0 s0 0 0 M ρ = some y → ao_W Γ uX12_step (ao_rm d MC MS) (ao_Q Γ (ao_QI y) MC MS) (ao_dc ρ y.2.2) (ao_ds ρ y.2.2) 449 [some (.ref (Γ.2.2.2 + r0)), some (.int x1), some (.int x2), some (.int x3), some (.int x4), none, none] [.int s0] (M, ρ)) ∧ (∀ (r0 : Nat) (x1 : Int32) (x2 : Int32) (x3 : Int32) (x4 : Int32) (s0 : Int32) (M : ao_M) (ρ : ao_H) (y : Int32 × ao_S), fX12_step n 455 r0 x1 x2 x3 x4 0 0 s0 0 0 M ρ = some y → ao_W Γ uX12_step (ao_rm d MC MS) (ao_Q Γ (ao_QI y) MC MS) (ao_dc ρ y.2.2) (ao_ds ρ y.2.2) 455 [some (.ref (Γ.2.2.2 + r0)), some (.int x1), some (.int x2), some (.int x3), some (.int x4), none, none] [.int s0] (M, ρ)) ∧ (∀ (r0 : Nat) (x1 : Int32) (x2 : Int32) (x3 : Int32) (x4 : Int32) (s0 : Int32) (M : ao_M) (ρ : ao_H) (y : Int32 × ao_S), fX12_step n 466 r0 x1 x2 x3 x4 0 0 s0 0 0 M ρ = some y → ao_W Γ uX12_step (ao_rm d MC MS) (ao_Q Γ (ao_QI y) MC MS) (ao_dc ρ y.2.2) (ao_ds ρ y.2.2) 466 [some (.ref (Γ.2.2.2 + r0)), some (.int x1), some (.int x2), some (.int x3), some (.int x4), none, none] [.int s0] (M, ρ)) ∧ (∀ (r0 : Nat) (x1 : Int32) (x2 : Int32) (x3 : Int32) (x4 : Int32) (M : ao_M) (ρ : ao_H) (y : Int32 × ao_S), fX12_step n 558 r0 x1 x2 x3 x4 0 0 0 0 0 M ρ = some y → ao_W Γ uX12_step (ao_rm d MC MS) (ao_Q Γ (ao_QI y) MC MS) (ao_dc ρ y.2.2) (ao_ds ρ y.2.2) 558 [some (.ref (Γ.2.2.2 + r0)), some (.int x1), some (.int x2), some (.int x3), some (.int x4), none, none] [] (M, ρ)) := by
  intro n
  induction n with
  | zero => exact ⟨fun _ _ _ _ _ h => ao_no h, fun _ _ _ _ _ _ _ _ _ h => ao_no h, fun _ _ _ _ _ _ _ _ h => ao_no h, fun _ _ _ _ _ _ _ _ _ _ _ _ _ h => ao_no h, fun _ _ _ _ _ _ _ _ _ h => ao_no h, fun _ _ _ _ _ _ _ _ _ h => ao_no h, fun _ _ _ _ _ _ _ _ _ h => ao_no h, fun _ _ _ _ _ _ _ _ _ h => ao_no h, fun _ _ _ _ _ _ _ _ _ h => ao_no h, fun _ _ _ _ _ _ _ _ h => ao_no h⟩
  | succ n ih =>
    refine ⟨?_, ?_, ?_, ?_, ?_, ?_, ?_, ?_, ?_, ?_⟩
    · intro r0 x1 M ρ y h
      replace h := ao_ifT h rfl
      refine ao_iload_n 1 dX12_step_0 rfl rfl ?_
      refine ao_sipush (v := 6000) dX12_step_1 (by decide) ?_
      refine ao_imul dX12_step_4 ?_
      refine ao_aload_n 0 dX12_step_5 rfl rfl ?_
      obtain ⟨hk1, h⟩ := ao_some h
      obtain ⟨j2, hj2, h⟩ := ao_bind h
      refine an_getR r0 12 30 (q := (RX12, TX12, 83)) dX12_step_6 rfl hk1 (Nat.le_of_ble_eq_true rfl) rfl lf_X12_190 hj2 ?_
      refine ao_iload_n 1 dX12_step_9 rfl rfl ?_
      obtain ⟨hk3, h⟩ := ao_some h
      obtain ⟨hb4, h⟩ := ao_some h
      refine an_iaload j2 dX12_step_10 hk3 hb4 ?_
      refine ao_iadd dX12_step_11 ?_
      refine ao_iconst (v := 3) dX12_step_12 (by decide) ?_
      refine ao_imul dX12_step_13 ?_
      refine an_topi (fun v5 hv5 => ?_)
      replace h := ao_letD h hv5
      refine ao_istore_n 2 (lo' := [some (.ref (Γ.2.2.2 + r0)), some (.int x1), some (.int v5), none, none, none, none]) dX12_step_14 rfl (Nat.le_of_ble_eq_true rfl) rfl ?_
      refine ao_aload_n 0 dX12_step_15 rfl rfl ?_
      obtain ⟨j6, hj6, h⟩ := ao_bind h
      refine an_getR r0 12 28 (q := (RX12, TX12, 83)) dX12_step_16 rfl hk1 (Nat.le_of_ble_eq_true rfl) rfl lf_X12_184 hj6 ?_
      refine ao_iload_n 2 dX12_step_19 rfl rfl ?_
      refine ao_iconst (v := 1) dX12_step_20 (by decide) ?_
      refine ao_iadd dX12_step_21 ?_
      obtain ⟨hk7, h⟩ := ao_some h
      obtain ⟨hb8, h⟩ := ao_some h
      refine an_iaload j6 dX12_step_22 hk7 hb8 ?_
      refine an_topi (fun v9 hv9 => ?_)
      replace h := ao_letD h hv9
      refine ao_istore_n 3 (lo' := [some (.ref (Γ.2.2.2 + r0)), some (.int x1), some (.int v5), some (.int v9), none, none, none]) dX12_step_23 rfl (Nat.le_of_ble_eq_true rfl) rfl ?_
      refine ao_aload_n 0 dX12_step_24 rfl rfl ?_
      refine an_getR r0 12 28 (q := (RX12, TX12, 83)) dX12_step_25 rfl hk1 (Nat.le_of_ble_eq_true rfl) rfl lf_X12_184 hj6 ?_
      refine ao_iload_n 2 dX12_step_28 rfl rfl ?_
      refine ao_iconst (v := 2) dX12_step_29 (by decide) ?_
      refine ao_iadd dX12_step_30 ?_
      obtain ⟨hb10, h⟩ := ao_some h
      refine an_iaload j6 dX12_step_31 hk7 hb10 ?_
      refine an_topi (fun v11 hv11 => ?_)
      replace h := ao_letD h hv11
      refine ao_istore 4 (lo' := [some (.ref (Γ.2.2.2 + r0)), some (.int x1), some (.int v5), some (.int v9), some (.int v11), none, none]) dX12_step_32 (Nat.le_of_ble_eq_true rfl) rfl ?_
      refine ao_aload_n 0 dX12_step_34 rfl rfl ?_
      refine an_getR r0 12 28 (q := (RX12, TX12, 83)) dX12_step_35 rfl hk1 (Nat.le_of_ble_eq_true rfl) rfl lf_X12_184 hj6 ?_
      refine ao_iload_n 2 dX12_step_38 rfl rfl ?_
      obtain ⟨hb12, h⟩ := ao_some h
      refine an_iaload j6 dX12_step_39 hk7 hb12 ?_
      refine an_topi (fun v13 hv13 => ?_)
      replace h := ao_letD h hv13
      by_cases c14 : v13 = (0 : Int32)
      · replace h := ao_ifT h c14
        refine ao_tableIn 144 dX12_step_40 (by rw [c14]; decide) (by rw [c14]; decide) (by rw [c14]; rfl) (by decide) ?_
        refine ao_aload_n 0 dX12_step_144 rfl rfl ?_
        refine ao_iload_n 1 dX12_step_145 rfl rfl ?_
        refine ao_iload_n 3 dX12_step_146 rfl rfl ?_
        obtain ⟨p15, hp15, h⟩ := ao_bind h
        refine an_callVv r0 12 (q := (RX12, TX12, 83)) [.int x1, .int v9] (aX12_push (d - 1) (by omega) r0 x1 v9 M ρ hp15) dX12_step_147 lc_X12_449 li_X12_push ls_X12_push rfl hk1 rfl rfl (Nat.le_of_ble_eq_true rfl) (ao_hR (by omega) (by decide)) ?_
        refine ao_goto 558 dX12_step_150 (by decide) ?_
        exact ih.2.2.2.2.2.2.2.2.2 r0 x1 v5 v9 v11 p15 ρ _ h
      · replace h := ao_ifF h c14
        by_cases c16 : v13 = (1 : Int32)
        · replace h := ao_ifT h c16
          refine ao_tableIn 153 dX12_step_40 (by rw [c16]; decide) (by rw [c16]; decide) (by rw [c16]; rfl) (by decide) ?_
          refine ao_aload_n 0 dX12_step_153 rfl rfl ?_
          refine ao_iload_n 1 dX12_step_154 rfl rfl ?_
          refine ao_aload_n 0 dX12_step_155 rfl rfl ?_
          obtain ⟨j17, hj17, h⟩ := ao_bind h
          refine an_getR r0 12 31 (q := (RX12, TX12, 83)) dX12_step_156 rfl hk1 (Nat.le_of_ble_eq_true rfl) rfl lf_X12_193 hj17 ?_
          refine ao_iload_n 1 dX12_step_159 rfl rfl ?_
          refine ao_bipush (v := 26) dX12_step_160 (by decide) ?_
          refine ao_imul dX12_step_162 ?_
          refine ao_iload_n 3 dX12_step_163 rfl rfl ?_
          refine ao_iadd dX12_step_164 ?_
          obtain ⟨hk18, h⟩ := ao_some h
          obtain ⟨hb19, h⟩ := ao_some h
          refine an_iaload j17 dX12_step_165 hk18 hb19 ?_
          obtain ⟨p20, hp20, h⟩ := ao_bind h
          refine an_callVv r0 12 (q := (RX12, TX12, 83)) [.int x1, .int (M j17 ((x1 * (26 : Int32)) + v9).toNatClampNeg)] (aX12_push (d - 1) (by omega) r0 x1 (M j17 ((x1 * (26 : Int32)) + v9).toNatClampNeg) M ρ hp20) dX12_step_166 lc_X12_449 li_X12_push ls_X12_push rfl hk1 rfl rfl (Nat.le_of_ble_eq_true rfl) (ao_hR (by omega) (by decide)) ?_
          refine ao_goto 558 dX12_step_169 (by decide) ?_
          exact ih.2.2.2.2.2.2.2.2.2 r0 x1 v5 v9 v11 p20 ρ _ h
        · replace h := ao_ifF h c16
          by_cases c21 : v13 = (2 : Int32)
          · replace h := ao_ifT h c21
            refine ao_tableIn 172 dX12_step_40 (by rw [c21]; decide) (by rw [c21]; decide) (by rw [c21]; rfl) (by decide) ?_
            refine ao_aload_n 0 dX12_step_172 rfl rfl ?_
            refine ao_iload_n 1 dX12_step_173 rfl rfl ?_
            refine ao_iload_n 3 dX12_step_174 rfl rfl ?_
            obtain ⟨p22, hp22, h⟩ := ao_bind h
            refine ba_callVi r0 12 (q := (RX12, TX12, 83)) [.int x1, .int v9] (aX12_doLook (d - 1) (by omega) n r0 x1 v9 M ρ hp22) dX12_step_175 lc_X12_452 li_X12_doLook ls_X12_doLook rfl hk1 rfl rfl (Nat.le_of_ble_eq_true rfl) (ao_hR (by omega) (by decide)) (ao_leC (me_X12_doLook n r0 x1 v9 M ρ hp22) ((mX12_step n).2.1 r0 x1 v5 v9 v11 p22.1 p22.2.1 p22.2.2 _ h)) (ao_leS (me_X12_doLook n r0 x1 v9 M ρ hp22) ((mX12_step n).2.1 r0 x1 v5 v9 v11 p22.1 p22.2.1 p22.2.2 _ h)) ?_
            exact ih.2.1 r0 x1 v5 v9 v11 p22.1 p22.2.1 p22.2.2 _ h
          · replace h := ao_ifF h c21
            by_cases c23 : v13 = (3 : Int32)
            · replace h := ao_ifT h c23
              refine ao_tableIn 193 dX12_step_40 (by rw [c23]; decide) (by rw [c23]; decide) (by rw [c23]; rfl) (by decide) ?_
              exact ih.2.2.1 r0 x1 v5 v9 v11 M ρ _ h
            · replace h := ao_ifF h c23
              by_cases c24 : v13 = (4 : Int32)
              · replace h := ao_ifT h c24
                refine ao_tableIn 193 dX12_step_40 (by rw [c24]; decide) (by rw [c24]; decide) (by rw [c24]; rfl) (by decide) ?_
                exact ih.2.2.1 r0 x1 v5 v9 v11 M ρ _ h
              · replace h := ao_ifF h c24
                by_cases c25 : v13 = (5 : Int32)
                · replace h := ao_ifT h c25
                  refine ao_tableIn 193 dX12_step_40 (by rw [c25]; decide) (by rw [c25]; decide) (by rw [c25]; rfl) (by decide) ?_
                  exact ih.2.2.1 r0 x1 v5 v9 v11 M ρ _ h
                · replace h := ao_ifF h c25
                  by_cases c26 : v13 = (6 : Int32)
                  · replace h := ao_ifT h c26
                    refine ao_tableIn 179 dX12_step_40 (by rw [c26]; decide) (by rw [c26]; decide) (by rw [c26]; rfl) (by decide) ?_
                    refine ao_aload_n 0 dX12_step_179 rfl rfl ?_
                    refine ao_iload_n 1 dX12_step_180 rfl rfl ?_
                    refine ao_aload_n 0 dX12_step_181 rfl rfl ?_
                    refine ao_iload_n 1 dX12_step_182 rfl rfl ?_
                    obtain ⟨p27, hp27, h⟩ := ao_bind h
                    refine an_callVi r0 12 (q := (RX12, TX12, 83)) [.int x1] (aX12_pop (d - 1) (by omega) r0 x1 M ρ hp27) dX12_step_183 lc_X12_455 li_X12_pop ls_X12_pop rfl hk1 rfl rfl (Nat.le_of_ble_eq_true rfl) (ao_hR (by omega) (by decide)) ?_
                    refine ao_ineg dX12_step_186 ?_
                    obtain ⟨p28, hp28, h⟩ := ao_bind h
                    refine an_callVv r0 12 (q := (RX12, TX12, 83)) [.int x1, .int (-p27.1)] (aX12_push (d - 1) (by omega) r0 x1 (-p27.1) p27.2 ρ hp28) dX12_step_187 lc_X12_449 li_X12_push ls_X12_push rfl hk1 rfl rfl (Nat.le_of_ble_eq_true rfl) (ao_hR (by omega) (by decide)) ?_
                    refine ao_goto 558 dX12_step_190 (by decide) ?_
                    exact ih.2.2.2.2.2.2.2.2.2 r0 x1 v5 v9 v11 p28 ρ _ h
                  · replace h := ao_ifF h c26
                    by_cases c29 : v13 = (7 : Int32)
                    · replace h := ao_ifT h c29
                      refine ao_tableIn 193 dX12_step_40 (by rw [c29]; decide) (by rw [c29]; decide) (by rw [c29]; rfl) (by decide) ?_
                      exact ih.2.2.1 r0 x1 v5 v9 v11 M ρ _ h
                    · replace h := ao_ifF h c29
                      by_cases c30 : v13 = (8 : Int32)
                      · replace h := ao_ifT h c30
                        refine ao_tableIn 193 dX12_step_40 (by rw [c30]; decide) (by rw [c30]; decide) (by rw [c30]; rfl) (by decide) ?_
                        exact ih.2.2.1 r0 x1 v5 v9 v11 M ρ _ h
                      · replace h := ao_ifF h c30
                        by_cases c31 : v13 = (9 : Int32)
                        · replace h := ao_ifT h c31
                          refine ao_tableIn 307 dX12_step_40 (by rw [c31]; decide) (by rw [c31]; decide) (by rw [c31]; rfl) (by decide) ?_
                          refine ao_aload_n 0 dX12_step_307 rfl rfl ?_
                          obtain ⟨j32, hj32, h⟩ := ao_bind h
                          refine an_getR r0 12 31 (q := (RX12, TX12, 83)) dX12_step_308 rfl hk1 (Nat.le_of_ble_eq_true rfl) rfl lf_X12_193 hj32 ?_
                          refine ao_iload_n 1 dX12_step_311 rfl rfl ?_
                          refine ao_bipush (v := 26) dX12_step_312 (by decide) ?_
                          refine ao_imul dX12_step_314 ?_
                          refine ao_iload_n 3 dX12_step_315 rfl rfl ?_
                          refine ao_iadd dX12_step_316 ?_
                          refine ao_aload_n 0 dX12_step_317 rfl rfl ?_
                          refine ao_iload_n 1 dX12_step_318 rfl rfl ?_
                          obtain ⟨p33, hp33, h⟩ := ao_bind h
                          refine an_callVi r0 12 (q := (RX12, TX12, 83)) [.int x1] (aX12_pop (d - 1) (by omega) r0 x1 M ρ hp33) dX12_step_319 lc_X12_455 li_X12_pop ls_X12_pop rfl hk1 rfl rfl (Nat.le_of_ble_eq_true rfl) (ao_hR (by omega) (by decide)) ?_
                          obtain ⟨hk34, h⟩ := ao_some h
                          obtain ⟨hb35, h⟩ := ao_some h
                          refine an_iastore j32 dX12_step_322 hk34 hb35 (fun M36 hM36 => ?_)
                          replace h := ao_letD h hM36
                          refine ao_goto 558 dX12_step_323 (by decide) ?_
                          exact ih.2.2.2.2.2.2.2.2.2 r0 x1 v5 v9 v11 M36 ρ _ h
                        · replace h := ao_ifF h c31
                          by_cases c37 : v13 = (10 : Int32)
                          · replace h := ao_ifT h c37
                            refine ao_tableIn 326 dX12_step_40 (by rw [c37]; decide) (by rw [c37]; decide) (by rw [c37]; rfl) (by decide) ?_
                            refine ao_aload_n 0 dX12_step_326 rfl rfl ?_
                            refine ao_iload_n 1 dX12_step_327 rfl rfl ?_
                            refine ao_iload_n 3 dX12_step_328 rfl rfl ?_
                            obtain ⟨p38, hp38, h⟩ := ao_bind h
                            refine ba_callVi r0 12 (q := (RX12, TX12, 83)) [.int x1, .int v9] (aX12_doWrite (d - 1) (by omega) n r0 x1 v9 M ρ hp38) dX12_step_329 lc_X12_458 li_X12_doWrite ls_X12_doWrite rfl hk1 rfl rfl (Nat.le_of_ble_eq_true rfl) (ao_hR (by omega) (by decide)) (ao_leC (me_X12_doWrite n r0 x1 v9 M ρ hp38) ((mX12_step n).2.2.2.2.1 r0 x1 v5 v9 v11 p38.1 p38.2.1 p38.2.2 _ h)) (ao_leS (me_X12_doWrite n r0 x1 v9 M ρ hp38) ((mX12_step n).2.2.2.2.1 r0 x1 v5 v9 v11 p38.1 p38.2.1 p38.2.2 _ h)) ?_
                            exact ih.2.2.2.2.1 r0 x1 v5 v9 v11 p38.1 p38.2.1 p38.2.2 _ h
                          · replace h := ao_ifF h c37
                            by_cases c39 : v13 = (11 : Int32)
                            · replace h := ao_ifT h c39
                              refine ao_tableIn 333 dX12_step_40 (by rw [c39]; decide) (by rw [c39]; decide) (by rw [c39]; rfl) (by decide) ?_
                              refine ao_aload_n 0 dX12_step_333 rfl rfl ?_
                              refine ao_iload_n 1 dX12_step_334 rfl rfl ?_
                              obtain ⟨p40, hp40, h⟩ := ao_bind h
                              refine an_callVi r0 12 (q := (RX12, TX12, 83)) [.int x1] (aX12_pop (d - 1) (by omega) r0 x1 M ρ hp40) dX12_step_335 lc_X12_455 li_X12_pop ls_X12_pop rfl hk1 rfl rfl (Nat.le_of_ble_eq_true rfl) (ao_hR (by omega) (by decide)) ?_
                              refine ao_if_ne 558 dX12_step_338 (by decide) (fun c41 => ?_) (fun c41 => ?_)
                              · replace h := ao_ifF h c41
                                exact ih.2.2.2.2.2.2.2.2.2 r0 x1 v5 v9 v11 p40.2 ρ _ h
                              · replace h := ao_ifT h c41
                                refine ao_aload_n 0 dX12_step_341 rfl rfl ?_
                                refine an_getR r0 12 30 (q := (RX12, TX12, 83)) dX12_step_342 rfl hk1 (Nat.le_of_ble_eq_true rfl) rfl lf_X12_190 hj2 ?_
                                refine ao_iload_n 1 dX12_step_345 rfl rfl ?_
                                refine ao_iload_n 3 dX12_step_346 rfl rfl ?_
                                refine an_iastore j2 dX12_step_347 hk3 hb4 (fun M42 hM42 => ?_)
                                replace h := ao_letD h hM42
                                refine ao_iconst (v := (-1)) dX12_step_348 (by decide) ?_
                                cases h
                                exact ao_ireturn dX12_step_349 rfl rfl ⟨rfl, rfl⟩
                            · replace h := ao_ifF h c39
                              by_cases c43 : v13 = (12 : Int32)
                              · replace h := ao_ifT h c43
                                refine ao_tableIn 350 dX12_step_40 (by rw [c43]; decide) (by rw [c43]; decide) (by rw [c43]; rfl) (by decide) ?_
                                refine ao_aload_n 0 dX12_step_350 rfl rfl ?_
                                refine an_getR r0 12 30 (q := (RX12, TX12, 83)) dX12_step_351 rfl hk1 (Nat.le_of_ble_eq_true rfl) rfl lf_X12_190 hj2 ?_
                                refine ao_iload_n 1 dX12_step_354 rfl rfl ?_
                                refine ao_iload_n 3 dX12_step_355 rfl rfl ?_
                                refine an_iastore j2 dX12_step_356 hk3 hb4 (fun M44 hM44 => ?_)
                                replace h := ao_letD h hM44
                                refine ao_iconst (v := (-1)) dX12_step_357 (by decide) ?_
                                cases h
                                exact ao_ireturn dX12_step_358 rfl rfl ⟨rfl, rfl⟩
                              · replace h := ao_ifF h c43
                                by_cases c45 : v13 = (13 : Int32)
                                · replace h := ao_ifT h c45
                                  refine ao_tableIn 359 dX12_step_40 (by rw [c45]; decide) (by rw [c45]; decide) (by rw [c45]; rfl) (by decide) ?_
                                  refine ao_aload_n 0 dX12_step_359 rfl rfl ?_
                                  refine an_getR r0 12 30 (q := (RX12, TX12, 83)) dX12_step_360 rfl hk1 (Nat.le_of_ble_eq_true rfl) rfl lf_X12_190 hj2 ?_
                                  refine ao_iload_n 1 dX12_step_363 rfl rfl ?_
                                  refine ao_dup2 dX12_step_364 rfl rfl ?_
                                  refine an_iaload j2 dX12_step_365 hk3 hb4 ?_
                                  refine ao_iconst (v := 1) dX12_step_366 (by decide) ?_
                                  refine ao_iadd dX12_step_367 ?_
                                  refine an_iastore j2 dX12_step_368 hk3 hb4 (fun M46 hM46 => ?_)
                                  replace h := ao_letD h hM46
                                  refine ao_iconst (v := 0) dX12_step_369 (by decide) ?_
                                  cases h
                                  exact ao_ireturn dX12_step_370 rfl rfl ⟨rfl, rfl⟩
                                · replace h := ao_ifF h c45
                                  by_cases c47 : v13 = (14 : Int32)
                                  · replace h := ao_ifT h c47
                                    refine ao_tableIn 371 dX12_step_40 (by rw [c47]; decide) (by rw [c47]; decide) (by rw [c47]; rfl) (by decide) ?_
                                    refine ao_aload_n 0 dX12_step_371 rfl rfl ?_
                                    refine ao_iload_n 1 dX12_step_372 rfl rfl ?_
                                    obtain ⟨p48, hp48, h⟩ := ao_bind h
                                    refine an_callVi r0 12 (q := (RX12, TX12, 83)) [.int x1] (aX12_pop (d - 1) (by omega) r0 x1 M ρ hp48) dX12_step_373 lc_X12_455 li_X12_pop ls_X12_pop rfl hk1 rfl rfl (Nat.le_of_ble_eq_true rfl) (ao_hR (by omega) (by decide)) ?_
                                    refine an_topi (fun v49 hv49 => ?_)
                                    replace h := ao_letD h hv49
                                    refine ao_istore 5 (lo' := [some (.ref (Γ.2.2.2 + r0)), some (.int x1), some (.int v5), some (.int v9), some (.int v11), some (.int v49), none]) dX12_step_376 (Nat.le_of_ble_eq_true rfl) rfl ?_
                                    refine ao_aload_n 0 dX12_step_378 rfl rfl ?_
                                    refine an_getR r0 12 30 (q := (RX12, TX12, 83)) dX12_step_379 rfl hk1 (Nat.le_of_ble_eq_true rfl) rfl lf_X12_190 hj2 ?_
                                    refine ao_iload_n 1 dX12_step_382 rfl rfl ?_
                                    refine ao_dup2 dX12_step_383 rfl rfl ?_
                                    refine an_iaload j2 dX12_step_384 hk3 hb4 ?_
                                    refine ao_iconst (v := 1) dX12_step_385 (by decide) ?_
                                    refine ao_iadd dX12_step_386 ?_
                                    refine an_iastore j2 dX12_step_387 hk3 hb4 (fun M50 hM50 => ?_)
                                    replace h := ao_letD h hM50
                                    refine ao_aload_n 0 dX12_step_388 rfl rfl ?_
                                    obtain ⟨j51, hj51, h⟩ := ao_bind h
                                    refine an_getR r0 12 29 (q := (RX12, TX12, 83)) dX12_step_389 rfl hk1 (Nat.le_of_ble_eq_true rfl) rfl lf_X12_187 hj51 ?_
                                    refine ao_iload_n 1 dX12_step_392 rfl rfl ?_
                                    obtain ⟨hk52, h⟩ := ao_some h
                                    obtain ⟨hb53, h⟩ := ao_some h
                                    refine an_iaload j51 dX12_step_393 hk52 hb53 ?_
                                    refine ao_iconst (v := 2) dX12_step_394 (by decide) ?_
                                    refine ao_icmp_eq 408 dX12_step_395 (by decide) (fun c54 => ?_) (fun c54 => ?_)
                                    · replace h := ao_ifT h c54
                                      refine ao_aload_n 0 dX12_step_408 rfl rfl ?_
                                      refine ao_aload_n 0 dX12_step_409 rfl rfl ?_
                                      refine ao_iload_n 1 dX12_step_410 rfl rfl ?_
                                      refine ao_aload_n 0 dX12_step_411 rfl rfl ?_
                                      obtain ⟨j55, hj55, h⟩ := ao_bind h
                                      refine an_getR r0 12 34 (q := (RX12, TX12, 83)) dX12_step_412 rfl hk1 (Nat.le_of_ble_eq_true rfl) rfl lf_X12_202 hj55 ?_
                                      refine ao_iload_n 1 dX12_step_415 rfl rfl ?_
                                      obtain ⟨hk56, h⟩ := ao_some h
                                      obtain ⟨hb57, h⟩ := ao_some h
                                      refine an_iaload j55 dX12_step_416 hk56 hb57 ?_
                                      refine ao_iconst (v := 1) dX12_step_417 (by decide) ?_
                                      refine ao_isub dX12_step_418 ?_
                                      obtain ⟨p58, hp58, h⟩ := ao_bind h
                                      refine an_callVi r0 12 (q := (RX12, TX12, 83)) [.int x1, .int ((M50 j55 x1.toNatClampNeg) - (1 : Int32))] (aX12_level (d - 1) (by omega) r0 x1 ((M50 j55 x1.toNatClampNeg) - (1 : Int32)) M50 ρ hp58) dX12_step_419 lc_X12_360 li_X12_level ls_X12_level rfl hk1 rfl rfl (Nat.le_of_ble_eq_true rfl) (ao_hR (by omega) (by decide)) ?_
                                      refine ao_iload 5 dX12_step_422 rfl ?_
                                      obtain ⟨p59, hp59, h⟩ := ao_bind h
                                      refine an_callVv r0 12 (q := (RX12, TX12, 83)) [.int p58.1, .int v49] (aX12_hold (d - 1) (by omega) r0 p58.1 v49 p58.2 ρ hp59) dX12_step_424 lc_X12_461 li_X12_hold ls_X12_hold rfl hk1 rfl rfl (Nat.le_of_ble_eq_true rfl) (ao_hR (by omega) (by decide)) ?_
                                      refine ao_iconst (v := 0) dX12_step_427 (by decide) ?_
                                      cases h
                                      exact ao_ireturn dX12_step_428 rfl rfl ⟨rfl, rfl⟩
                                    · replace h := ao_ifF h c54
                                      refine ao_aload_n 0 dX12_step_398 rfl rfl ?_
                                      refine ao_iload_n 1 dX12_step_399 rfl rfl ?_
                                      refine ao_iload 5 dX12_step_400 rfl ?_
                                      obtain ⟨p60, hp60, h⟩ := ao_bind h
                                      refine an_callVv r0 12 (q := (RX12, TX12, 83)) [.int x1, .int v49] (aX12_say (d - 1) (by omega) r0 x1 v49 M50 ρ hp60) dX12_step_402 lc_X12_428 li_X12_say ls_X12_say rfl hk1 rfl rfl (Nat.le_of_ble_eq_true rfl) (ao_hR (by omega) (by decide)) ?_
                                      refine ao_goto 427 dX12_step_405 (by decide) ?_
                                      refine ao_iconst (v := 0) dX12_step_427 (by decide) ?_
                                      cases h
                                      exact ao_ireturn dX12_step_428 rfl rfl ⟨rfl, rfl⟩
                                  · replace h := ao_ifF h c47
                                    by_cases c61 : v13 = (15 : Int32)
                                    · replace h := ao_ifT h c61
                                      refine ao_tableIn 429 dX12_step_40 (by rw [c61]; decide) (by rw [c61]; decide) (by rw [c61]; rfl) (by decide) ?_
                                      refine ao_aload_n 0 dX12_step_429 rfl rfl ?_
                                      refine ao_iload_n 1 dX12_step_430 rfl rfl ?_
                                      refine ao_iload_n 3 dX12_step_431 rfl rfl ?_
                                      refine ao_iload 4 dX12_step_432 rfl ?_
                                      obtain ⟨p62, hp62, h⟩ := ao_bind h
                                      refine an_callVi r0 12 (q := (RX12, TX12, 83)) [.int x1, .int v9, .int v11] (aX12_beginBlock (d - 1) (by omega) _ r0 x1 v9 v11 M ρ hp62) dX12_step_434 lc_X12_464 li_X12_beginBlock ls_X12_beginBlock rfl hk1 rfl rfl (Nat.le_of_ble_eq_true rfl) (ao_hR (by omega) (by decide)) ?_
                                      cases h
                                      exact ao_ireturn dX12_step_437 rfl rfl ⟨rfl, rfl⟩
                                    · replace h := ao_ifF h c61
                                      by_cases c63 : v13 = (16 : Int32)
                                      · replace h := ao_ifT h c63
                                        refine ao_tableIn 438 dX12_step_40 (by rw [c63]; decide) (by rw [c63]; decide) (by rw [c63]; rfl) (by decide) ?_
                                        refine ao_aload_n 0 dX12_step_438 rfl rfl ?_
                                        refine ao_iload_n 1 dX12_step_439 rfl rfl ?_
                                        obtain ⟨p64, hp64, h⟩ := ao_bind h
                                        refine ba_callVi r0 12 (q := (RX12, TX12, 83)) [.int x1] (aX12_endBlock (d - 1) (by omega) n r0 x1 M ρ hp64) dX12_step_440 lc_X12_467 li_X12_endBlock ls_X12_endBlock rfl hk1 rfl rfl (Nat.le_of_ble_eq_true rfl) (ao_hR (by omega) (by decide)) (ao_leC (me_X12_endBlock n r0 x1 M ρ hp64) ((mX12_step n).2.2.2.2.2.1 r0 x1 v5 v9 v11 p64.1 p64.2.1 p64.2.2 _ h)) (ao_leS (me_X12_endBlock n r0 x1 M ρ hp64) ((mX12_step n).2.2.2.2.2.1 r0 x1 v5 v9 v11 p64.1 p64.2.1 p64.2.2 _ h)) ?_
                                        exact ih.2.2.2.2.2.1 r0 x1 v5 v9 v11 p64.1 p64.2.1 p64.2.2 _ h
                                      · replace h := ao_ifF h c63
                                        by_cases c65 : v13 = (17 : Int32)
                                        · replace h := ao_ifT h c65
                                          refine ao_tableIn 444 dX12_step_40 (by rw [c65]; decide) (by rw [c65]; decide) (by rw [c65]; rfl) (by decide) ?_
                                          refine ao_aload_n 0 dX12_step_444 rfl rfl ?_
                                          refine ao_iload_n 1 dX12_step_445 rfl rfl ?_
                                          obtain ⟨p66, hp66, h⟩ := ao_bind h
                                          refine ba_callVi r0 12 (q := (RX12, TX12, 83)) [.int x1] (aX12_retry (d - 1) (by omega) n r0 x1 M ρ hp66) dX12_step_446 lc_X12_470 li_X12_retry ls_X12_retry rfl hk1 rfl rfl (Nat.le_of_ble_eq_true rfl) (ao_hR (by omega) (by decide)) (ao_leC (me_X12_retry n r0 x1 M ρ hp66) ((mX12_step n).2.2.2.2.2.2.1 r0 x1 v5 v9 v11 p66.1 p66.2.1 p66.2.2 _ h)) (ao_leS (me_X12_retry n r0 x1 M ρ hp66) ((mX12_step n).2.2.2.2.2.2.1 r0 x1 v5 v9 v11 p66.1 p66.2.1 p66.2.2 _ h)) ?_
                                          exact ih.2.2.2.2.2.2.1 r0 x1 v5 v9 v11 p66.1 p66.2.1 p66.2.2 _ h
                                        · replace h := ao_ifF h c65
                                          by_cases c67 : v13 = (18 : Int32)
                                          · replace h := ao_ifT h c67
                                            refine ao_tableIn 450 dX12_step_40 (by rw [c67]; decide) (by rw [c67]; decide) (by rw [c67]; rfl) (by decide) ?_
                                            refine ao_aload_n 0 dX12_step_450 rfl rfl ?_
                                            refine ao_iload_n 1 dX12_step_451 rfl rfl ?_
                                            obtain ⟨p68, hp68, h⟩ := ao_bind h
                                            refine ba_callVi r0 12 (q := (RX12, TX12, 83)) [.int x1] (aX12_quit (d - 1) (by omega) n r0 x1 M ρ hp68) dX12_step_452 lc_X12_473 li_X12_quit ls_X12_quit rfl hk1 rfl rfl (Nat.le_of_ble_eq_true rfl) (ao_hR (by omega) (by decide)) (ao_leC (me_X12_quit n r0 x1 M ρ hp68) ((mX12_step n).2.2.2.2.2.2.2.1 r0 x1 v5 v9 v11 p68.1 p68.2.1 p68.2.2 _ h)) (ao_leS (me_X12_quit n r0 x1 M ρ hp68) ((mX12_step n).2.2.2.2.2.2.2.1 r0 x1 v5 v9 v11 p68.1 p68.2.1 p68.2.2 _ h)) ?_
                                            exact ih.2.2.2.2.2.2.2.1 r0 x1 v5 v9 v11 p68.1 p68.2.1 p68.2.2 _ h
                                          · replace h := ao_ifF h c67
                                            by_cases c69 : v13 = (19 : Int32)
                                            · replace h := ao_ifT h c69
                                              refine ao_tableIn 456 dX12_step_40 (by rw [c69]; decide) (by rw [c69]; decide) (by rw [c69]; rfl) (by decide) ?_
                                              refine ao_aload_n 0 dX12_step_456 rfl rfl ?_
                                              refine ao_iload_n 1 dX12_step_457 rfl rfl ?_
                                              refine ao_aload_n 0 dX12_step_458 rfl rfl ?_
                                              refine ao_iload_n 1 dX12_step_459 rfl rfl ?_
                                              obtain ⟨p70, hp70, h⟩ := ao_bind h
                                              refine an_callVi r0 12 (q := (RX12, TX12, 83)) [.int x1] (aX12_pop (d - 1) (by omega) r0 x1 M ρ hp70) dX12_step_460 lc_X12_455 li_X12_pop ls_X12_pop rfl hk1 rfl rfl (Nat.le_of_ble_eq_true rfl) (ao_hR (by omega) (by decide)) ?_
                                              obtain ⟨p71, hp71, h⟩ := ao_bind h
                                              refine ba_callVi r0 12 (q := (RX12, TX12, 83)) [.int x1, .int p70.1] (aX12_fail (d - 1) (by omega) n r0 x1 p70.1 p70.2 ρ hp71) dX12_step_463 lc_X12_476 li_X12_fail ls_X12_fail rfl hk1 rfl rfl (Nat.le_of_ble_eq_true rfl) (ao_hR (by omega) (by decide)) (ao_leC (me_X12_fail n r0 x1 p70.1 p70.2 ρ hp71) ((mX12_step n).2.2.2.2.2.2.2.2.1 r0 x1 v5 v9 v11 p71.1 p71.2.1 p71.2.2 _ h)) (ao_leS (me_X12_fail n r0 x1 p70.1 p70.2 ρ hp71) ((mX12_step n).2.2.2.2.2.2.2.2.1 r0 x1 v5 v9 v11 p71.1 p71.2.1 p71.2.2 _ h)) ?_
                                              exact ih.2.2.2.2.2.2.2.2.1 r0 x1 v5 v9 v11 p71.1 p71.2.1 p71.2.2 _ h
                                            · replace h := ao_ifF h c69
                                              by_cases c72 : v13 = (20 : Int32)
                                              · replace h := ao_ifT h c72
                                                refine ao_tableIn 467 dX12_step_40 (by rw [c72]; decide) (by rw [c72]; decide) (by rw [c72]; rfl) (by decide) ?_
                                                refine ao_aload_n 0 dX12_step_467 rfl rfl ?_
                                                refine ao_iload_n 1 dX12_step_468 rfl rfl ?_
                                                refine ao_aload_n 0 dX12_step_469 rfl rfl ?_
                                                obtain ⟨j73, hj73, h⟩ := ao_bind h
                                                refine an_getR r0 12 36 (q := (RX12, TX12, 83)) dX12_step_470 rfl hk1 (Nat.le_of_ble_eq_true rfl) rfl lf_X12_208 hj73 ?_
                                                refine ao_iload_n 1 dX12_step_473 rfl rfl ?_
                                                obtain ⟨hk74, h⟩ := ao_some h
                                                obtain ⟨hb75, h⟩ := ao_some h
                                                refine an_iaload j73 dX12_step_474 hk74 hb75 ?_
                                                obtain ⟨p76, hp76, h⟩ := ao_bind h
                                                refine an_callVi r0 12 (q := (RX12, TX12, 83)) [.int x1, .int (M j73 x1.toNatClampNeg)] (aX12_level (d - 1) (by omega) r0 x1 (M j73 x1.toNatClampNeg) M ρ hp76) dX12_step_475 lc_X12_360 li_X12_level ls_X12_level rfl hk1 rfl rfl (Nat.le_of_ble_eq_true rfl) (ao_hR (by omega) (by decide)) ?_
                                                refine an_topi (fun v77 hv77 => ?_)
                                                replace h := ao_letD h hv77
                                                refine ao_istore 5 (lo' := [some (.ref (Γ.2.2.2 + r0)), some (.int x1), some (.int v5), some (.int v9), some (.int v11), some (.int v77), none]) dX12_step_478 (Nat.le_of_ble_eq_true rfl) rfl ?_
                                                refine ao_aload_n 0 dX12_step_480 rfl rfl ?_
                                                obtain ⟨j78, hj78, h⟩ := ao_bind h
                                                refine an_getR r0 12 44 (q := (RX12, TX12, 83)) dX12_step_481 rfl hk1 (Nat.le_of_ble_eq_true rfl) rfl lf_X12_232 hj78 ?_
                                                refine ao_iload 5 dX12_step_484 rfl ?_
                                                refine ao_iload_n 3 dX12_step_486 rfl rfl ?_
                                                obtain ⟨hk79, h⟩ := ao_some h
                                                obtain ⟨hb80, h⟩ := ao_some h
                                                refine an_iastore j78 dX12_step_487 hk79 hb80 (fun M81 hM81 => ?_)
                                                replace h := ao_letD h hM81
                                                refine ao_aload_n 0 dX12_step_488 rfl rfl ?_
                                                obtain ⟨j82, hj82, h⟩ := ao_bind h
                                                refine an_getR r0 12 45 (q := (RX12, TX12, 83)) dX12_step_489 rfl hk1 (Nat.le_of_ble_eq_true rfl) rfl lf_X12_235 hj82 ?_
                                                refine ao_iload 5 dX12_step_492 rfl ?_
                                                refine ao_iload 4 dX12_step_494 rfl ?_
                                                obtain ⟨hk83, h⟩ := ao_some h
                                                obtain ⟨hb84, h⟩ := ao_some h
                                                refine an_iastore j82 dX12_step_496 hk83 hb84 (fun M85 hM85 => ?_)
                                                replace h := ao_letD h hM85
                                                refine ao_aload_n 0 dX12_step_497 rfl rfl ?_
                                                obtain ⟨j86, hj86, h⟩ := ao_bind h
                                                refine an_getR r0 12 46 (q := (RX12, TX12, 83)) dX12_step_498 rfl hk1 (Nat.le_of_ble_eq_true rfl) rfl lf_X12_238 hj86 ?_
                                                refine ao_iload 5 dX12_step_501 rfl ?_
                                                refine ao_aload_n 0 dX12_step_503 rfl rfl ?_
                                                obtain ⟨j87, hj87, h⟩ := ao_bind h
                                                refine an_getR r0 12 34 (q := (RX12, TX12, 83)) dX12_step_504 rfl hk1 (Nat.le_of_ble_eq_true rfl) rfl lf_X12_202 hj87 ?_
                                                refine ao_iload_n 1 dX12_step_507 rfl rfl ?_
                                                obtain ⟨hk88, h⟩ := ao_some h
                                                obtain ⟨hb89, h⟩ := ao_some h
                                                refine an_iaload j87 dX12_step_508 hk88 hb89 ?_
                                                obtain ⟨hk90, h⟩ := ao_some h
                                                obtain ⟨hb91, h⟩ := ao_some h
                                                refine an_iastore j86 dX12_step_509 hk90 hb91 (fun M92 hM92 => ?_)
                                                replace h := ao_letD h hM92
                                                refine ao_aload_n 0 dX12_step_510 rfl rfl ?_
                                                obtain ⟨j93, hj93, h⟩ := ao_bind h
                                                refine an_getR r0 12 47 (q := (RX12, TX12, 83)) dX12_step_511 rfl hk1 (Nat.le_of_ble_eq_true rfl) rfl lf_X12_241 hj93 ?_
                                                refine ao_iload 5 dX12_step_514 rfl ?_
                                                refine ao_aload_n 0 dX12_step_516 rfl rfl ?_
                                                obtain ⟨j94, hj94, h⟩ := ao_bind h
                                                refine an_getR r0 12 35 (q := (RX12, TX12, 83)) dX12_step_517 rfl hk1 (Nat.le_of_ble_eq_true rfl) rfl lf_X12_205 hj94 ?_
                                                refine ao_iload_n 1 dX12_step_520 rfl rfl ?_
                                                obtain ⟨hk95, h⟩ := ao_some h
                                                obtain ⟨hb96, h⟩ := ao_some h
                                                refine an_iaload j94 dX12_step_521 hk95 hb96 ?_
                                                obtain ⟨hk97, h⟩ := ao_some h
                                                obtain ⟨hb98, h⟩ := ao_some h
                                                refine an_iastore j93 dX12_step_522 hk97 hb98 (fun M99 hM99 => ?_)
                                                replace h := ao_letD h hM99
                                                refine ao_aload_n 0 dX12_step_523 rfl rfl ?_
                                                refine an_getR r0 12 36 (q := (RX12, TX12, 83)) dX12_step_524 rfl hk1 (Nat.le_of_ble_eq_true rfl) rfl lf_X12_208 hj73 ?_
                                                refine ao_iload_n 1 dX12_step_527 rfl rfl ?_
                                                refine ao_dup2 dX12_step_528 rfl rfl ?_
                                                refine an_iaload j73 dX12_step_529 hk74 hb75 ?_
                                                refine ao_iconst (v := 1) dX12_step_530 (by decide) ?_
                                                refine ao_iadd dX12_step_531 ?_
                                                refine an_iastore j73 dX12_step_532 hk74 hb75 (fun M100 hM100 => ?_)
                                                replace h := ao_letD h hM100
                                                refine ao_goto 558 dX12_step_533 (by decide) ?_
                                                refine ao_loForget (lo' := [some (.ref (Γ.2.2.2 + r0)), some (.int x1), some (.int v5), some (.int v9), some (.int v11), none, none]) (ao_fgS (ao_fgS (ao_fgS (ao_fgS (ao_fgS (ao_fgN (ao_fgN ao_fgZ))))))) ?_
                                                exact ih.2.2.2.2.2.2.2.2.2 r0 x1 v5 v9 v11 M100 ρ _ h
                                              · replace h := ao_ifF h c72
                                                by_cases c101 : v13 = (21 : Int32)
                                                · replace h := ao_ifT h c101
                                                  refine ao_tableIn 536 dX12_step_40 (by rw [c101]; decide) (by rw [c101]; decide) (by rw [c101]; rfl) (by decide) ?_
                                                  refine ao_aload_n 0 dX12_step_536 rfl rfl ?_
                                                  obtain ⟨j102, hj102, h⟩ := ao_bind h
                                                  refine an_getR r0 12 36 (q := (RX12, TX12, 83)) dX12_step_537 rfl hk1 (Nat.le_of_ble_eq_true rfl) rfl lf_X12_208 hj102 ?_
                                                  refine ao_iload_n 1 dX12_step_540 rfl rfl ?_
                                                  refine ao_dup2 dX12_step_541 rfl rfl ?_
                                                  obtain ⟨hk103, h⟩ := ao_some h
                                                  obtain ⟨hb104, h⟩ := ao_some h
                                                  refine an_iaload j102 dX12_step_542 hk103 hb104 ?_
                                                  refine ao_iconst (v := 1) dX12_step_543 (by decide) ?_
                                                  refine ao_isub dX12_step_544 ?_
                                                  refine an_iastore j102 dX12_step_545 hk103 hb104 (fun M105 hM105 => ?_)
                                                  replace h := ao_letD h hM105
                                                  refine ao_goto 558 dX12_step_546 (by decide) ?_
                                                  exact ih.2.2.2.2.2.2.2.2.2 r0 x1 v5 v9 v11 M105 ρ _ h
                                                · replace h := ao_ifF h c101
                                                  refine ao_tableOut 549 dX12_step_40 (by have nc14 := ao_ne (z := 0) c14 (by decide); have nc16 := ao_ne (z := 1) c16 (by decide); have nc21 := ao_ne (z := 2) c21 (by decide); have nc23 := ao_ne (z := 3) c23 (by decide); have nc24 := ao_ne (z := 4) c24 (by decide); have nc25 := ao_ne (z := 5) c25 (by decide); have nc26 := ao_ne (z := 6) c26 (by decide); have nc29 := ao_ne (z := 7) c29 (by decide); have nc30 := ao_ne (z := 8) c30 (by decide); have nc31 := ao_ne (z := 9) c31 (by decide); have nc37 := ao_ne (z := 10) c37 (by decide); have nc39 := ao_ne (z := 11) c39 (by decide); have nc43 := ao_ne (z := 12) c43 (by decide); have nc45 := ao_ne (z := 13) c45 (by decide); have nc47 := ao_ne (z := 14) c47 (by decide); have nc61 := ao_ne (z := 15) c61 (by decide); have nc63 := ao_ne (z := 16) c63 (by decide); have nc65 := ao_ne (z := 17) c65 (by decide); have nc67 := ao_ne (z := 18) c67 (by decide); have nc69 := ao_ne (z := 19) c69 (by decide); have nc72 := ao_ne (z := 20) c72 (by decide); have nc101 := ao_ne (z := 21) c101 (by decide); omega) (by decide) ?_
                                                  refine ao_aload_n 0 dX12_step_549 rfl rfl ?_
                                                  obtain ⟨j106, hj106, h⟩ := ao_bind h
                                                  refine an_getR r0 12 29 (q := (RX12, TX12, 83)) dX12_step_550 rfl hk1 (Nat.le_of_ble_eq_true rfl) rfl lf_X12_187 hj106 ?_
                                                  refine ao_iload_n 1 dX12_step_553 rfl rfl ?_
                                                  refine ao_iconst (v := 4) dX12_step_554 (by decide) ?_
                                                  obtain ⟨hk107, h⟩ := ao_some h
                                                  obtain ⟨hb108, h⟩ := ao_some h
                                                  refine an_iastore j106 dX12_step_555 hk107 hb108 (fun M109 hM109 => ?_)
                                                  replace h := ao_letD h hM109
                                                  refine ao_iconst (v := 2) dX12_step_556 (by decide) ?_
                                                  cases h
                                                  exact ao_ireturn dX12_step_557 rfl rfl ⟨rfl, rfl⟩
    · intro r0 x1 x2 x3 x4 s0 M ρ y h
      replace h := ao_ifF h (by decide)
      replace h := ao_ifT h rfl
      cases h
      exact ao_ireturn dX12_step_178 rfl rfl ⟨rfl, rfl⟩
    · intro r0 x1 x2 x3 x4 M ρ y h
      replace h := ao_ifF h (by decide)
      replace h := ao_ifF h (by decide)
      replace h := ao_ifT h rfl
      refine ao_aload_n 0 dX12_step_193 rfl rfl ?_
      refine ao_iload_n 1 dX12_step_194 rfl rfl ?_
      obtain ⟨hk110, h⟩ := ao_some h
      obtain ⟨p111, hp111, h⟩ := ao_bind h
      refine an_callVi r0 12 (q := (RX12, TX12, 83)) [.int x1] (aX12_pop (d - 1) (by omega) r0 x1 M ρ hp111) dX12_step_195 lc_X12_455 li_X12_pop ls_X12_pop rfl hk110 rfl rfl (Nat.le_of_ble_eq_true rfl) (ao_hR (by omega) (by decide)) ?_
      refine an_topi (fun v112 hv112 => ?_)
      replace h := ao_letD h hv112
      refine ao_istore 5 (lo' := [some (.ref (Γ.2.2.2 + r0)), some (.int x1), some (.int x2), some (.int x3), some (.int x4), some (.int v112), none]) dX12_step_198 (Nat.le_of_ble_eq_true rfl) rfl ?_
      refine ao_aload_n 0 dX12_step_200 rfl rfl ?_
      refine ao_iload_n 1 dX12_step_201 rfl rfl ?_
      obtain ⟨p113, hp113, h⟩ := ao_bind h
      refine an_callVi r0 12 (q := (RX12, TX12, 83)) [.int x1] (aX12_pop (d - 1) (by omega) r0 x1 p111.2 ρ hp113) dX12_step_202 lc_X12_455 li_X12_pop ls_X12_pop rfl hk110 rfl rfl (Nat.le_of_ble_eq_true rfl) (ao_hR (by omega) (by decide)) ?_
      refine an_topi (fun v114 hv114 => ?_)
      replace h := ao_letD h hv114
      refine ao_istore 6 (lo' := [some (.ref (Γ.2.2.2 + r0)), some (.int x1), some (.int x2), some (.int x3), some (.int x4), some (.int v112), some (.int v114)]) dX12_step_205 (Nat.le_of_ble_eq_true rfl) rfl ?_
      refine ao_aload_n 0 dX12_step_207 rfl rfl ?_
      refine ao_iload_n 1 dX12_step_208 rfl rfl ?_
      refine ao_aload_n 0 dX12_step_209 rfl rfl ?_
      obtain ⟨j115, hj115, h⟩ := ao_bind h
      refine an_getR r0 12 28 (q := (RX12, TX12, 83)) dX12_step_210 rfl hk110 (Nat.le_of_ble_eq_true rfl) rfl lf_X12_184 hj115 ?_
      refine ao_iload_n 2 dX12_step_213 rfl rfl ?_
      obtain ⟨hk116, h⟩ := ao_some h
      obtain ⟨hb117, h⟩ := ao_some h
      refine an_iaload j115 dX12_step_214 hk116 hb117 ?_
      refine ao_iconst (v := 3) dX12_step_215 (by decide) ?_
      refine ao_icmp_ne 227 dX12_step_216 (by decide) (fun c118 => ?_) (fun c118 => ?_)
      · replace h := ao_ifF h c118
        refine ao_aload_n 0 dX12_step_227 rfl rfl ?_
        refine an_getR r0 12 28 (q := (RX12, TX12, 83)) dX12_step_228 rfl hk110 (Nat.le_of_ble_eq_true rfl) rfl lf_X12_184 hj115 ?_
        refine ao_iload_n 2 dX12_step_231 rfl rfl ?_
        refine an_iaload j115 dX12_step_232 hk116 hb117 ?_
        refine ao_iconst (v := 4) dX12_step_233 (by decide) ?_
        refine ao_icmp_ne 245 dX12_step_234 (by decide) (fun c119 => ?_) (fun c119 => ?_)
        · replace h := ao_ifF h c119
          refine ao_aload_n 0 dX12_step_245 rfl rfl ?_
          refine an_getR r0 12 28 (q := (RX12, TX12, 83)) dX12_step_246 rfl hk110 (Nat.le_of_ble_eq_true rfl) rfl lf_X12_184 hj115 ?_
          refine ao_iload_n 2 dX12_step_249 rfl rfl ?_
          refine an_iaload j115 dX12_step_250 hk116 hb117 ?_
          refine ao_iconst (v := 5) dX12_step_251 (by decide) ?_
          refine ao_icmp_ne 263 dX12_step_252 (by decide) (fun c120 => ?_) (fun c120 => ?_)
          · replace h := ao_ifF h c120
            refine ao_aload_n 0 dX12_step_263 rfl rfl ?_
            refine an_getR r0 12 28 (q := (RX12, TX12, 83)) dX12_step_264 rfl hk110 (Nat.le_of_ble_eq_true rfl) rfl lf_X12_184 hj115 ?_
            refine ao_iload_n 2 dX12_step_267 rfl rfl ?_
            refine an_iaload j115 dX12_step_268 hk116 hb117 ?_
            refine ao_bipush (v := 7) dX12_step_269 (by decide) ?_
            refine ao_icmp_ne 289 dX12_step_271 (by decide) (fun c121 => ?_) (fun c121 => ?_)
            · replace h := ao_ifF h c121
              refine ao_iload 6 dX12_step_289 rfl ?_
              refine ao_iload 5 dX12_step_291 rfl ?_
              refine ao_icmp_ge 300 dX12_step_293 (by decide) (fun c122 => ?_) (fun c122 => ?_)
              · replace h := ao_ifT h c122
                refine ao_iconst (v := 0) dX12_step_300 (by decide) ?_
                exact ih.2.2.2.1 r0 x1 x2 x3 x4 v112 v114 (0 : Int32) x1 r0 p113.2 ρ _ h
              · replace h := ao_ifF h c122
                refine ao_iconst (v := 1) dX12_step_296 (by decide) ?_
                refine ao_goto 301 dX12_step_297 (by decide) ?_
                exact ih.2.2.2.1 r0 x1 x2 x3 x4 v112 v114 (1 : Int32) x1 r0 p113.2 ρ _ h
            · replace h := ao_ifT h c121
              refine ao_iload 6 dX12_step_274 rfl ?_
              refine ao_iload 5 dX12_step_276 rfl ?_
              refine ao_icmp_ne 285 dX12_step_278 (by decide) (fun c123 => ?_) (fun c123 => ?_)
              · replace h := ao_ifF h c123
                refine ao_iconst (v := 0) dX12_step_285 (by decide) ?_
                refine ao_goto 301 dX12_step_286 (by decide) ?_
                exact ih.2.2.2.1 r0 x1 x2 x3 x4 v112 v114 (0 : Int32) x1 r0 p113.2 ρ _ h
              · replace h := ao_ifT h c123
                refine ao_iconst (v := 1) dX12_step_281 (by decide) ?_
                refine ao_goto 301 dX12_step_282 (by decide) ?_
                exact ih.2.2.2.1 r0 x1 x2 x3 x4 v112 v114 (1 : Int32) x1 r0 p113.2 ρ _ h
          · replace h := ao_ifT h c120
            refine ao_iload 6 dX12_step_255 rfl ?_
            refine ao_iload 5 dX12_step_257 rfl ?_
            refine ao_imul dX12_step_259 ?_
            refine ao_goto 301 dX12_step_260 (by decide) ?_
            exact ih.2.2.2.1 r0 x1 x2 x3 x4 v112 v114 (v114 * v112) x1 r0 p113.2 ρ _ h
        · replace h := ao_ifT h c119
          refine ao_iload 6 dX12_step_237 rfl ?_
          refine ao_iload 5 dX12_step_239 rfl ?_
          refine ao_isub dX12_step_241 ?_
          refine ao_goto 301 dX12_step_242 (by decide) ?_
          exact ih.2.2.2.1 r0 x1 x2 x3 x4 v112 v114 (v114 - v112) x1 r0 p113.2 ρ _ h
      · replace h := ao_ifT h c118
        refine ao_iload 6 dX12_step_219 rfl ?_
        refine ao_iload 5 dX12_step_221 rfl ?_
        refine ao_iadd dX12_step_223 ?_
        refine ao_goto 301 dX12_step_224 (by decide) ?_
        exact ih.2.2.2.1 r0 x1 x2 x3 x4 v112 v114 (v114 + v112) x1 r0 p113.2 ρ _ h
    · intro r0 x1 x2 x3 x4 x5 x6 s0 s1 q2 M ρ y h
      replace h := ao_ifF h (by decide)
      replace h := ao_ifF h (by decide)
      replace h := ao_ifF h (by decide)
      replace h := ao_ifT h rfl
      obtain ⟨hk124, h⟩ := ao_some h
      obtain ⟨p125, hp125, h⟩ := ao_bind h
      refine an_callVv q2 12 (q := (RX12, TX12, 83)) [.int s1, .int s0] (aX12_push (d - 1) (by omega) q2 s1 s0 M ρ hp125) dX12_step_301 lc_X12_449 li_X12_push ls_X12_push rfl hk124 rfl rfl (Nat.le_of_ble_eq_true rfl) (ao_hR (by omega) (by decide)) ?_
      refine ao_goto 558 dX12_step_304 (by decide) ?_
      refine ao_loForget (lo' := [some (.ref (Γ.2.2.2 + r0)), some (.int x1), some (.int x2), some (.int x3), some (.int x4), none, none]) (ao_fgS (ao_fgS (ao_fgS (ao_fgS (ao_fgS (ao_fgN (ao_fgN ao_fgZ))))))) ?_
      exact ih.2.2.2.2.2.2.2.2.2 r0 x1 x2 x3 x4 p125 ρ _ h
    · intro r0 x1 x2 x3 x4 s0 M ρ y h
      replace h := ao_ifF h (by decide)
      replace h := ao_ifF h (by decide)
      replace h := ao_ifF h (by decide)
      replace h := ao_ifF h (by decide)
      replace h := ao_ifT h rfl
      cases h
      exact ao_ireturn dX12_step_332 rfl rfl ⟨rfl, rfl⟩
    · intro r0 x1 x2 x3 x4 s0 M ρ y h
      replace h := ao_ifF h (by decide)
      replace h := ao_ifF h (by decide)
      replace h := ao_ifF h (by decide)
      replace h := ao_ifF h (by decide)
      replace h := ao_ifF h (by decide)
      replace h := ao_ifT h rfl
      cases h
      exact ao_ireturn dX12_step_443 rfl rfl ⟨rfl, rfl⟩
    · intro r0 x1 x2 x3 x4 s0 M ρ y h
      replace h := ao_ifF h (by decide)
      replace h := ao_ifF h (by decide)
      replace h := ao_ifF h (by decide)
      replace h := ao_ifF h (by decide)
      replace h := ao_ifF h (by decide)
      replace h := ao_ifF h (by decide)
      replace h := ao_ifT h rfl
      cases h
      exact ao_ireturn dX12_step_449 rfl rfl ⟨rfl, rfl⟩
    · intro r0 x1 x2 x3 x4 s0 M ρ y h
      replace h := ao_ifF h (by decide)
      replace h := ao_ifF h (by decide)
      replace h := ao_ifF h (by decide)
      replace h := ao_ifF h (by decide)
      replace h := ao_ifF h (by decide)
      replace h := ao_ifF h (by decide)
      replace h := ao_ifF h (by decide)
      replace h := ao_ifT h rfl
      cases h
      exact ao_ireturn dX12_step_455 rfl rfl ⟨rfl, rfl⟩
    · intro r0 x1 x2 x3 x4 s0 M ρ y h
      replace h := ao_ifF h (by decide)
      replace h := ao_ifF h (by decide)
      replace h := ao_ifF h (by decide)
      replace h := ao_ifF h (by decide)
      replace h := ao_ifF h (by decide)
      replace h := ao_ifF h (by decide)
      replace h := ao_ifF h (by decide)
      replace h := ao_ifF h (by decide)
      replace h := ao_ifT h rfl
      cases h
      exact ao_ireturn dX12_step_466 rfl rfl ⟨rfl, rfl⟩
    · intro r0 x1 x2 x3 x4 M ρ y h
      replace h := ao_ifF h (by decide)
      replace h := ao_ifF h (by decide)
      replace h := ao_ifF h (by decide)
      replace h := ao_ifF h (by decide)
      replace h := ao_ifF h (by decide)
      replace h := ao_ifF h (by decide)
      replace h := ao_ifF h (by decide)
      replace h := ao_ifF h (by decide)
      replace h := ao_ifF h (by decide)
      replace h := ao_ifT h rfl
      refine ao_aload_n 0 dX12_step_558 rfl rfl ?_
      obtain ⟨hk126, h⟩ := ao_some h
      obtain ⟨j127, hj127, h⟩ := ao_bind h
      refine an_getR r0 12 30 (q := (RX12, TX12, 83)) dX12_step_559 rfl hk126 (Nat.le_of_ble_eq_true rfl) rfl lf_X12_190 hj127 ?_
      refine ao_iload_n 1 dX12_step_562 rfl rfl ?_
      refine ao_dup2 dX12_step_563 rfl rfl ?_
      obtain ⟨hk128, h⟩ := ao_some h
      obtain ⟨hb129, h⟩ := ao_some h
      refine an_iaload j127 dX12_step_564 hk128 hb129 ?_
      refine ao_iconst (v := 1) dX12_step_565 (by decide) ?_
      refine ao_iadd dX12_step_566 ?_
      refine an_iastore j127 dX12_step_567 hk128 hb129 (fun M130 hM130 => ?_)
      replace h := ao_letD h hM130
      refine ao_iconst (v := (-1)) dX12_step_568 (by decide) ?_
      cases h
      exact ao_ireturn dX12_step_569 rfl rfl ⟨rfl, rfl⟩
theorem me_X12_step (n : Nat) (r0 : Nat) (x1 : Int32) (M : ao_M) (ρ : ao_H) {y : Int32 × ao_S} (h : gX12_step n r0 x1 M ρ = some y) : ao_le ρ y.2.2 := (mX12_step n).1 r0 x1 M ρ y h
set_option maxRecDepth 100000 in
set_option maxHeartbeats 4000000 in
theorem aX12_step {Γ : ao_C} (d : Nat) (hd : 8 ≤ d) (n : Nat) (r0 : Nat) (x1 : Int32) (M : ao_M) (ρ : ao_H) {y : Int32 × ao_S} (h : gX12_step n r0 x1 M ρ = some y) : ao_A Γ uX12_step d (ao_dc ρ y.2.2) (ao_ds ρ y.2.2) [.ref (Γ.2.2.2 + r0), .int x1] (M, ρ) (ao_QI y) := by
  refine ao_of (by decide) (ao_cat1 (Nat.le_of_ble_eq_true rfl)) (Nat.le_of_ble_eq_true rfl) ?_
  show ao_W Γ uX12_step (ao_rm d (ao_dc ρ y.2.2) (ao_ds ρ y.2.2)) (ao_Q Γ (ao_QI y) (ao_dc ρ y.2.2) (ao_ds ρ y.2.2)) (ao_dc ρ y.2.2) (ao_ds ρ y.2.2) 0 [some (.ref (Γ.2.2.2 + r0)), some (.int x1), none, none, none, none, none] [] (M, ρ)
  exact (wX12_step d hd _ _ n).1 r0 x1 M ρ y h

abbrev uX12_takeTurn : ao_Mi := (yX12_takeTurn, cX12_takeTurn, 3, (some .int), [])
def fX12_takeTurn : Nat → Nat → Nat → Int32 → Int32 → Int32 →  ao_M → ao_H → Option (Int32 × ao_S)
  | 0, _, _, _, _, _, _, _ => none
  | n + 1, pc, r0, x1, x2, s0, M, ρ =>
    if pc = 0 then
      if ρ.2.1 r0 = 22 then
      (ρ.1 r0 29).bind fun j2 =>
      if ρ.2.1 j2 = 0 then
      if ¬ (x1 < 0 ∨ ρ.2.2.1 j2 ≤ x1.toNatClampNeg) then
      if (M j2 x1.toNatClampNeg) = 0 then
        some ((2 : Int32), M, ρ)
      else
        if (M j2 x1.toNatClampNeg) = (4 : Int32) then
          some ((2 : Int32), M, ρ)
        else
          if (M j2 x1.toNatClampNeg) = (5 : Int32) then
            some ((5 : Int32), M, ρ)
          else
            if (M j2 x1.toNatClampNeg) = (3 : Int32) then
              (gX12_wakes n r0 x1 M ρ).bind fun p9 =>
              if p9.1 = 0 then
                some ((3 : Int32), p9.2, ρ)
              else
                (gX12_isBusy n r0 x1 p9.2 ρ).bind fun p11 =>
                if p11.1 = 0 then
                  ao_let (ao_u p11.2 j2 x1.toNatClampNeg (2 : Int32)) fun M13 =>
                  (ρ.1 r0 34).bind fun j14 =>
                  if ρ.2.1 j14 = 0 then
                  if ¬ (x1 < 0 ∨ ρ.2.2.1 j14 ≤ x1.toNatClampNeg) then
                  ao_let (ao_u M13 j14 x1.toNatClampNeg (1 : Int32)) fun M17 =>
                  (gX12_restart n r0 x1 (0 : Int32) M17 ρ).bind fun p18 =>
                  fX12_takeTurn n 83 r0 x1 0 0 p18.1 p18.2
                  else none
                  else none
                else
                  some ((4 : Int32), p11.2, ρ)
            else
              fX12_takeTurn n 88 r0 x1 (-1 : Int32) 0 M ρ
      else none
      else none
      else none
    else if pc = 83 then
      some ((6 : Int32), M, ρ)
    else if pc = 88 then
      if 0 ≤ x2 then
        some (x2, M, ρ)
      else
        if ρ.2.1 r0 = 22 then
        (gX12_step n r0 x1 M ρ).bind fun p21 =>
        fX12_takeTurn n 97 r0 x1 x2 p21.1 p21.2.1 p21.2.2
        else none
    else if pc = 97 then
      fX12_takeTurn n 88 r0 x1 s0 0 M ρ
    else none
def gX12_takeTurn (n : Nat) (r0 : Nat) (x1 : Int32) (M : ao_M) (ρ : ao_H) : Option (Int32 × ao_S) := fX12_takeTurn n 0 r0 x1 0 0 M ρ
set_option maxRecDepth 100000 in
set_option maxHeartbeats 4000000 in
theorem mX12_takeTurn : ∀ n : Nat, (∀ (r0 : Nat) (x1 : Int32) (M : ao_M) (ρ : ao_H) (y : Int32 × ao_S), fX12_takeTurn n 0 r0 x1 0 0 M ρ = some y → ao_le ρ y.2.2) ∧ (∀ (r0 : Nat) (x1 : Int32) (M : ao_M) (ρ : ao_H) (y : Int32 × ao_S), fX12_takeTurn n 83 r0 x1 0 0 M ρ = some y → ao_le ρ y.2.2) ∧ (∀ (r0 : Nat) (x1 : Int32) (x2 : Int32) (M : ao_M) (ρ : ao_H) (y : Int32 × ao_S), fX12_takeTurn n 88 r0 x1 x2 0 M ρ = some y → ao_le ρ y.2.2) ∧ (∀ (r0 : Nat) (x1 : Int32) (x2 : Int32) (s0 : Int32) (M : ao_M) (ρ : ao_H) (y : Int32 × ao_S), fX12_takeTurn n 97 r0 x1 x2 s0 M ρ = some y → ao_le ρ y.2.2) := by
  intro n
  induction n with
  | zero => exact ⟨fun _ _ _ _ _ h => ao_no h, fun _ _ _ _ _ h => ao_no h, fun _ _ _ _ _ _ h => ao_no h, fun _ _ _ _ _ _ _ h => ao_no h⟩
  | succ n ih =>
    refine ⟨?_, ?_, ?_, ?_⟩
    · intro r0 x1 M ρ y h
      replace h := ao_ifT h rfl
      obtain ⟨-, h⟩ := ao_some h
      obtain ⟨j2, hj2, h⟩ := ao_bind h
      obtain ⟨-, h⟩ := ao_some h
      obtain ⟨-, h⟩ := ao_some h
      rcases ao_ifC h with h | h
      · cases h
        exact ao_le_rf _
      · rcases ao_ifC h with h | h
        · cases h
          exact ao_le_rf _
        · rcases ao_ifC h with h | h
          · cases h
            exact ao_le_rf _
          · rcases ao_ifC h with h | h
            · obtain ⟨p9, hp9, h⟩ := ao_bind h
              rcases ao_ifC h with h | h
              · cases h
                exact ao_le_rf _
              · obtain ⟨p11, hp11, h⟩ := ao_bind h
                rcases ao_ifC h with h | h
                · replace h := ao_letD h rfl
                  generalize (ao_u p11.2 j2 x1.toNatClampNeg (2 : Int32)) = M13 at h
                  obtain ⟨j14, hj14, h⟩ := ao_bind h
                  obtain ⟨-, h⟩ := ao_some h
                  obtain ⟨-, h⟩ := ao_some h
                  replace h := ao_letD h rfl
                  generalize (ao_u M13 j14 x1.toNatClampNeg (1 : Int32)) = M17 at h
                  obtain ⟨p18, hp18, h⟩ := ao_bind h
                  exact ao_le_tr (me_X12_restart n r0 x1 (0 : Int32) M17 ρ hp18) (ih.2.1 r0 x1 p18.1 p18.2 _ h)
                · cases h
                  exact ao_le_rf _
            · exact ih.2.2.1 r0 x1 (-1 : Int32) M ρ _ h
    · intro r0 x1 M ρ y h
      replace h := ao_ifF h (by decide)
      replace h := ao_ifT h rfl
      cases h
      exact ao_le_rf _
    · intro r0 x1 x2 M ρ y h
      replace h := ao_ifF h (by decide)
      replace h := ao_ifF h (by decide)
      replace h := ao_ifT h rfl
      rcases ao_ifC h with h | h
      · cases h
        exact ao_le_rf _
      · obtain ⟨-, h⟩ := ao_some h
        obtain ⟨p21, hp21, h⟩ := ao_bind h
        exact ao_le_tr (me_X12_step n r0 x1 M ρ hp21) (ih.2.2.2 r0 x1 x2 p21.1 p21.2.1 p21.2.2 _ h)
    · intro r0 x1 x2 s0 M ρ y h
      replace h := ao_ifF h (by decide)
      replace h := ao_ifF h (by decide)
      replace h := ao_ifF h (by decide)
      replace h := ao_ifT h rfl
      exact ih.2.2.1 r0 x1 s0 M ρ _ h
set_option maxRecDepth 100000 in
set_option maxHeartbeats 4000000 in
theorem wX12_takeTurn {Γ : ao_C} (d : Nat) (hd : 9 ≤ d) (MC MS : Nat) : ∀ n : Nat, (∀ (r0 : Nat) (x1 : Int32) (M : ao_M) (ρ : ao_H) (y : Int32 × ao_S), fX12_takeTurn n 0 r0 x1 0 0 M ρ = some y → ao_W Γ uX12_takeTurn (ao_rm d MC MS) (ao_Q Γ (ao_QI y) MC MS) (ao_dc ρ y.2.2) (ao_ds ρ y.2.2) 0 [some (.ref (Γ.2.2.2 + r0)), some (.int x1), none] [] (M, ρ)) ∧ (∀ (r0 : Nat) (x1 : Int32) (M : ao_M) (ρ : ao_H) (y : Int32 × ao_S), fX12_takeTurn n 83 r0 x1 0 0 M ρ = some y → ao_W Γ uX12_takeTurn (ao_rm d MC MS) (ao_Q Γ (ao_QI y) MC MS) (ao_dc ρ y.2.2) (ao_ds ρ y.2.2) 83 [some (.ref (Γ.2.2.2 + r0)), some (.int x1), none] [] (M, ρ)) ∧ (∀ (r0 : Nat) (x1 : Int32) (x2 : Int32) (M : ao_M) (ρ : ao_H) (y : Int32 × ao_S), fX12_takeTurn n 88 r0 x1 x2 0 M ρ = some y → ao_W Γ uX12_takeTurn (ao_rm d MC MS) (ao_Q Γ (ao_QI y) MC MS) (ao_dc ρ y.2.2) (ao_ds ρ y.2.2) 88 [some (.ref (Γ.2.2.2 + r0)), some (.int x1), some (.int x2)] [] (M, ρ)) ∧ (∀ (r0 : Nat) (x1 : Int32) (x2 : Int32) (s0 : Int32) (M : ao_M) (ρ : ao_H) (y : Int32 × ao_S), fX12_takeTurn n 97 r0 x1 x2 s0 M ρ = some y → ao_W Γ uX12_takeTurn (ao_rm d MC MS) (ao_Q Γ (ao_QI y) MC MS) (ao_dc ρ y.2.2) (ao_ds ρ y.2.2) 97 [some (.ref (Γ.2.2.2 + r0)), some (.int x1), some (.int x2)] [.int s0] (M, ρ)) := by
  intro n
  induction n with
  | zero => exact ⟨fun _ _ _ _ _ h => ao_no h, fun _ _ _ _ _ h => ao_no h, fun _ _ _ _ _ _ h => ao_no h, fun _ _ _ _ _ _ _ h => ao_no h⟩
  | succ n ih =>
    refine ⟨?_, ?_, ?_, ?_⟩
    · intro r0 x1 M ρ y h
      replace h := ao_ifT h rfl
      refine ao_aload_n 0 dX12_takeTurn_0 rfl rfl ?_
      obtain ⟨hk1, h⟩ := ao_some h
      obtain ⟨j2, hj2, h⟩ := ao_bind h
      refine an_getR r0 12 29 (q := (RX12, TX12, 83)) dX12_takeTurn_1 rfl hk1 (Nat.le_of_ble_eq_true rfl) rfl lf_X12_187 hj2 ?_
      refine ao_iload_n 1 dX12_takeTurn_4 rfl rfl ?_
      obtain ⟨hk3, h⟩ := ao_some h
      obtain ⟨hb4, h⟩ := ao_some h
      refine an_iaload j2 dX12_takeTurn_5 hk3 hb4 ?_
      refine ao_if_eq 19 dX12_takeTurn_6 (by decide) (fun c5 => ?_) (fun c5 => ?_)
      · replace h := ao_ifT h c5
        refine ao_iconst (v := 2) dX12_takeTurn_19 (by decide) ?_
        cases h
        exact ao_ireturn dX12_takeTurn_20 rfl rfl ⟨rfl, rfl⟩
      · replace h := ao_ifF h c5
        refine ao_aload_n 0 dX12_takeTurn_9 rfl rfl ?_
        refine an_getR r0 12 29 (q := (RX12, TX12, 83)) dX12_takeTurn_10 rfl hk1 (Nat.le_of_ble_eq_true rfl) rfl lf_X12_187 hj2 ?_
        refine ao_iload_n 1 dX12_takeTurn_13 rfl rfl ?_
        refine an_iaload j2 dX12_takeTurn_14 hk3 hb4 ?_
        refine ao_iconst (v := 4) dX12_takeTurn_15 (by decide) ?_
        refine ao_icmp_ne 21 dX12_takeTurn_16 (by decide) (fun c6 => ?_) (fun c6 => ?_)
        · replace h := ao_ifF h c6
          refine ao_aload_n 0 dX12_takeTurn_21 rfl rfl ?_
          refine an_getR r0 12 29 (q := (RX12, TX12, 83)) dX12_takeTurn_22 rfl hk1 (Nat.le_of_ble_eq_true rfl) rfl lf_X12_187 hj2 ?_
          refine ao_iload_n 1 dX12_takeTurn_25 rfl rfl ?_
          refine an_iaload j2 dX12_takeTurn_26 hk3 hb4 ?_
          refine ao_iconst (v := 5) dX12_takeTurn_27 (by decide) ?_
          refine ao_icmp_ne 33 dX12_takeTurn_28 (by decide) (fun c7 => ?_) (fun c7 => ?_)
          · replace h := ao_ifF h c7
            refine ao_aload_n 0 dX12_takeTurn_33 rfl rfl ?_
            refine an_getR r0 12 29 (q := (RX12, TX12, 83)) dX12_takeTurn_34 rfl hk1 (Nat.le_of_ble_eq_true rfl) rfl lf_X12_187 hj2 ?_
            refine ao_iload_n 1 dX12_takeTurn_37 rfl rfl ?_
            refine an_iaload j2 dX12_takeTurn_38 hk3 hb4 ?_
            refine ao_iconst (v := 3) dX12_takeTurn_39 (by decide) ?_
            refine ao_icmp_ne 86 dX12_takeTurn_40 (by decide) (fun c8 => ?_) (fun c8 => ?_)
            · replace h := ao_ifF h c8
              refine ao_iconst (v := (-1)) dX12_takeTurn_86 (by decide) ?_
              refine ao_istore_n 2 (lo' := [some (.ref (Γ.2.2.2 + r0)), some (.int x1), some (.int (-1 : Int32))]) dX12_takeTurn_87 rfl (Nat.le_of_ble_eq_true rfl) rfl ?_
              exact ih.2.2.1 r0 x1 (-1 : Int32) M ρ _ h
            · replace h := ao_ifT h c8
              refine ao_aload_n 0 dX12_takeTurn_43 rfl rfl ?_
              refine ao_iload_n 1 dX12_takeTurn_44 rfl rfl ?_
              obtain ⟨p9, hp9, h⟩ := ao_bind h
              refine an_callVi r0 12 (q := (RX12, TX12, 83)) [.int x1] (aX12_wakes (d - 1) (by omega) _ r0 x1 M ρ hp9) dX12_takeTurn_45 lc_X12_488 li_X12_wakes ls_X12_wakes rfl hk1 rfl rfl (Nat.le_of_ble_eq_true rfl) (ao_hR (by omega) (by decide)) ?_
              refine ao_if_ne 53 dX12_takeTurn_48 (by decide) (fun c10 => ?_) (fun c10 => ?_)
              · replace h := ao_ifF h c10
                refine ao_aload_n 0 dX12_takeTurn_53 rfl rfl ?_
                refine ao_iload_n 1 dX12_takeTurn_54 rfl rfl ?_
                obtain ⟨p11, hp11, h⟩ := ao_bind h
                refine an_callVi r0 12 (q := (RX12, TX12, 83)) [.int x1] (aX12_isBusy (d - 1) (by omega) _ r0 x1 p9.2 ρ hp11) dX12_takeTurn_55 lc_X12_431 li_X12_isBusy ls_X12_isBusy rfl hk1 rfl rfl (Nat.le_of_ble_eq_true rfl) (ao_hR (by omega) (by decide)) ?_
                refine ao_if_eq 63 dX12_takeTurn_58 (by decide) (fun c12 => ?_) (fun c12 => ?_)
                · replace h := ao_ifT h c12
                  refine ao_aload_n 0 dX12_takeTurn_63 rfl rfl ?_
                  refine an_getR r0 12 29 (q := (RX12, TX12, 83)) dX12_takeTurn_64 rfl hk1 (Nat.le_of_ble_eq_true rfl) rfl lf_X12_187 hj2 ?_
                  refine ao_iload_n 1 dX12_takeTurn_67 rfl rfl ?_
                  refine ao_iconst (v := 2) dX12_takeTurn_68 (by decide) ?_
                  refine an_iastore j2 dX12_takeTurn_69 hk3 hb4 (fun M13 hM13 => ?_)
                  replace h := ao_letD h hM13
                  refine ao_aload_n 0 dX12_takeTurn_70 rfl rfl ?_
                  obtain ⟨j14, hj14, h⟩ := ao_bind h
                  refine an_getR r0 12 34 (q := (RX12, TX12, 83)) dX12_takeTurn_71 rfl hk1 (Nat.le_of_ble_eq_true rfl) rfl lf_X12_202 hj14 ?_
                  refine ao_iload_n 1 dX12_takeTurn_74 rfl rfl ?_
                  refine ao_iconst (v := 1) dX12_takeTurn_75 (by decide) ?_
                  obtain ⟨hk15, h⟩ := ao_some h
                  obtain ⟨hb16, h⟩ := ao_some h
                  refine an_iastore j14 dX12_takeTurn_76 hk15 hb16 (fun M17 hM17 => ?_)
                  replace h := ao_letD h hM17
                  refine ao_aload_n 0 dX12_takeTurn_77 rfl rfl ?_
                  refine ao_iload_n 1 dX12_takeTurn_78 rfl rfl ?_
                  refine ao_iconst (v := 0) dX12_takeTurn_79 (by decide) ?_
                  obtain ⟨p18, hp18, h⟩ := ao_bind h
                  refine ba_callVv r0 12 (q := (RX12, TX12, 83)) [.int x1, .int (0 : Int32)] (aX12_restart (d - 1) (by omega) n r0 x1 (0 : Int32) M17 ρ hp18) dX12_takeTurn_80 lc_X12_396 li_X12_restart ls_X12_restart rfl hk1 rfl rfl (Nat.le_of_ble_eq_true rfl) (ao_hR (by omega) (by decide)) (ao_leC (me_X12_restart n r0 x1 (0 : Int32) M17 ρ hp18) ((mX12_takeTurn n).2.1 r0 x1 p18.1 p18.2 _ h)) (ao_leS (me_X12_restart n r0 x1 (0 : Int32) M17 ρ hp18) ((mX12_takeTurn n).2.1 r0 x1 p18.1 p18.2 _ h)) ?_
                  exact ih.2.1 r0 x1 p18.1 p18.2 _ h
                · replace h := ao_ifF h c12
                  refine ao_iconst (v := 4) dX12_takeTurn_61 (by decide) ?_
                  cases h
                  exact ao_ireturn dX12_takeTurn_62 rfl rfl ⟨rfl, rfl⟩
              · replace h := ao_ifT h c10
                refine ao_iconst (v := 3) dX12_takeTurn_51 (by decide) ?_
                cases h
                exact ao_ireturn dX12_takeTurn_52 rfl rfl ⟨rfl, rfl⟩
          · replace h := ao_ifT h c7
            refine ao_iconst (v := 5) dX12_takeTurn_31 (by decide) ?_
            cases h
            exact ao_ireturn dX12_takeTurn_32 rfl rfl ⟨rfl, rfl⟩
        · replace h := ao_ifT h c6
          refine ao_iconst (v := 2) dX12_takeTurn_19 (by decide) ?_
          cases h
          exact ao_ireturn dX12_takeTurn_20 rfl rfl ⟨rfl, rfl⟩
    · intro r0 x1 M ρ y h
      replace h := ao_ifF h (by decide)
      replace h := ao_ifT h rfl
      refine ao_bipush (v := 6) dX12_takeTurn_83 (by decide) ?_
      cases h
      exact ao_ireturn dX12_takeTurn_85 rfl rfl ⟨rfl, rfl⟩
    · intro r0 x1 x2 M ρ y h
      replace h := ao_ifF h (by decide)
      replace h := ao_ifF h (by decide)
      replace h := ao_ifT h rfl
      refine ao_iload_n 2 dX12_takeTurn_88 rfl rfl ?_
      refine ao_if_ge 101 dX12_takeTurn_89 (by decide) (fun c19 => ?_) (fun c19 => ?_)
      · replace h := ao_ifT h c19
        refine ao_iload_n 2 dX12_takeTurn_101 rfl rfl ?_
        cases h
        exact ao_ireturn dX12_takeTurn_102 rfl rfl ⟨rfl, rfl⟩
      · replace h := ao_ifF h c19
        refine ao_aload_n 0 dX12_takeTurn_92 rfl rfl ?_
        refine ao_iload_n 1 dX12_takeTurn_93 rfl rfl ?_
        obtain ⟨hk20, h⟩ := ao_some h
        obtain ⟨p21, hp21, h⟩ := ao_bind h
        refine ba_callVi r0 12 (q := (RX12, TX12, 83)) [.int x1] (aX12_step (d - 1) (by omega) n r0 x1 M ρ hp21) dX12_takeTurn_94 lc_X12_491 li_X12_step ls_X12_step rfl hk20 rfl rfl (Nat.le_of_ble_eq_true rfl) (ao_hR (by omega) (by decide)) (ao_leC (me_X12_step n r0 x1 M ρ hp21) ((mX12_takeTurn n).2.2.2 r0 x1 x2 p21.1 p21.2.1 p21.2.2 _ h)) (ao_leS (me_X12_step n r0 x1 M ρ hp21) ((mX12_takeTurn n).2.2.2 r0 x1 x2 p21.1 p21.2.1 p21.2.2 _ h)) ?_
        exact ih.2.2.2 r0 x1 x2 p21.1 p21.2.1 p21.2.2 _ h
    · intro r0 x1 x2 s0 M ρ y h
      replace h := ao_ifF h (by decide)
      replace h := ao_ifF h (by decide)
      replace h := ao_ifF h (by decide)
      replace h := ao_ifT h rfl
      refine ao_istore_n 2 (lo' := [some (.ref (Γ.2.2.2 + r0)), some (.int x1), some (.int s0)]) dX12_takeTurn_97 rfl (Nat.le_of_ble_eq_true rfl) rfl ?_
      refine ao_goto 88 dX12_takeTurn_98 (by decide) ?_
      exact ih.2.2.1 r0 x1 s0 M ρ _ h
theorem me_X12_takeTurn (n : Nat) (r0 : Nat) (x1 : Int32) (M : ao_M) (ρ : ao_H) {y : Int32 × ao_S} (h : gX12_takeTurn n r0 x1 M ρ = some y) : ao_le ρ y.2.2 := (mX12_takeTurn n).1 r0 x1 M ρ y h
set_option maxRecDepth 100000 in
set_option maxHeartbeats 4000000 in
theorem aX12_takeTurn {Γ : ao_C} (d : Nat) (hd : 9 ≤ d) (n : Nat) (r0 : Nat) (x1 : Int32) (M : ao_M) (ρ : ao_H) {y : Int32 × ao_S} (h : gX12_takeTurn n r0 x1 M ρ = some y) : ao_A Γ uX12_takeTurn d (ao_dc ρ y.2.2) (ao_ds ρ y.2.2) [.ref (Γ.2.2.2 + r0), .int x1] (M, ρ) (ao_QI y) := by
  refine ao_of (by decide) (ao_cat1 (Nat.le_of_ble_eq_true rfl)) (Nat.le_of_ble_eq_true rfl) ?_
  show ao_W Γ uX12_takeTurn (ao_rm d (ao_dc ρ y.2.2) (ao_ds ρ y.2.2)) (ao_Q Γ (ao_QI y) (ao_dc ρ y.2.2) (ao_ds ρ y.2.2)) (ao_dc ρ y.2.2) (ao_ds ρ y.2.2) 0 [some (.ref (Γ.2.2.2 + r0)), some (.int x1), none] [] (M, ρ)
  exact (wX12_takeTurn d hd _ _ n).1 r0 x1 M ρ y h

abbrev uX12_feed : ao_Mi := (yX12_feed, cX12_feed, 6, (some .int), [])
def fX12_feed : Nat → Nat → Nat → Int32 → Int32 → Int32 → Int32 → Int32 → Int32 → Nat →  ao_M → ao_H → Option (Int32 × ao_M)
  | 0, _, _, _, _, _, _, _, _, _, _, _ => none
  | n + 1, pc, r0, x1, x2, x3, x4, x5, s0, q1, M, ρ =>
    if pc = 0 then
      if ρ.2.1 r0 = 22 then
      if ((M r0 6) + (20 : Int32)) ≤ (1000 : Int32) then
        fX12_feed n 19 r0 x1 x2 x3 x4 x5 (0 : Int32) r0 M ρ
      else
        fX12_feed n 19 r0 x1 x2 x3 x4 x5 (1 : Int32) r0 M ρ
      else none
    else if pc = 19 then
      if ρ.2.1 q1 = 22 then
      (gX12_fails q1 s0 M ρ).bind fun p4 =>
      if p4.1 = 0 then
        if ρ.2.1 r0 = 22 then
        (gX12_four n r0 x1 p4.2 ρ).bind fun p7 =>
        (gX12_four n r0 x2 p7 ρ).bind fun p8 =>
        (gX12_four n r0 x3 p8 ρ).bind fun p9 =>
        (gX12_four n r0 x4 p9 ρ).bind fun p10 =>
        (gX12_four n r0 x5 p10 ρ).bind fun p11 =>
        some ((p11 r0 6), p11)
        else none
      else
        some ((0 : Int32), p4.2)
      else none
    else none
def gX12_feed (n : Nat) (r0 : Nat) (x1 : Int32) (x2 : Int32) (x3 : Int32) (x4 : Int32) (x5 : Int32) (M : ao_M) (ρ : ao_H) : Option (Int32 × ao_M) := fX12_feed n 0 r0 x1 x2 x3 x4 x5 0 0 M ρ
set_option maxRecDepth 100000 in
set_option maxHeartbeats 4000000 in
theorem wX12_feed {Γ : ao_C} {ρ : ao_H} (d : Nat) (hd : 1 ≤ d) : ∀ n : Nat, (∀ (r0 : Nat) (x1 : Int32) (x2 : Int32) (x3 : Int32) (x4 : Int32) (x5 : Int32) (M : ao_M) (y : Int32 × ao_M), fX12_feed n 0 r0 x1 x2 x3 x4 x5 0 0 M ρ = some y → ao_W Γ uX12_feed (ao_rm d 0 0) (ao_Q Γ (ao_PI ρ y) 0 0) 0 0 0 [some (.ref (Γ.2.2.2 + r0)), some (.int x1), some (.int x2), some (.int x3), some (.int x4), some (.int x5)] [] (M, ρ)) ∧ (∀ (r0 : Nat) (x1 : Int32) (x2 : Int32) (x3 : Int32) (x4 : Int32) (x5 : Int32) (s0 : Int32) (q1 : Nat) (M : ao_M) (y : Int32 × ao_M), fX12_feed n 19 r0 x1 x2 x3 x4 x5 s0 q1 M ρ = some y → ao_W Γ uX12_feed (ao_rm d 0 0) (ao_Q Γ (ao_PI ρ y) 0 0) 0 0 19 [some (.ref (Γ.2.2.2 + r0)), some (.int x1), some (.int x2), some (.int x3), some (.int x4), some (.int x5)] [.int s0, .ref (Γ.2.2.2 + q1)] (M, ρ)) := by
  intro n
  induction n with
  | zero => exact ⟨fun _ _ _ _ _ _ _ _ h => ao_no h, fun _ _ _ _ _ _ _ _ _ _ h => ao_no h⟩
  | succ n ih =>
    refine ⟨?_, ?_⟩
    · intro r0 x1 x2 x3 x4 x5 M y h
      replace h := ao_ifT h rfl
      refine ao_aload_n 0 dX12_feed_0 rfl rfl ?_
      refine ao_aload_n 0 dX12_feed_1 rfl rfl ?_
      obtain ⟨hk1, h⟩ := ao_some h
      refine an_getI r0 12 6 (q := (RX12, TX12, 83)) dX12_feed_2 rfl hk1 (Nat.le_of_ble_eq_true rfl) rfl lf_X12_494 ?_
      refine ao_bipush (v := 20) dX12_feed_5 (by decide) ?_
      refine ao_iadd dX12_feed_7 ?_
      refine ao_sipush (v := 1000) dX12_feed_8 (by decide) ?_
      refine ao_icmp_le 18 dX12_feed_11 (by decide) (fun c2 => ?_) (fun c2 => ?_)
      · replace h := ao_ifT h c2
        refine ao_iconst (v := 0) dX12_feed_18 (by decide) ?_
        exact ih.2 r0 x1 x2 x3 x4 x5 (0 : Int32) r0 M _ h
      · replace h := ao_ifF h c2
        refine ao_iconst (v := 1) dX12_feed_14 (by decide) ?_
        refine ao_goto 19 dX12_feed_15 (by decide) ?_
        exact ih.2 r0 x1 x2 x3 x4 x5 (1 : Int32) r0 M _ h
    · intro r0 x1 x2 x3 x4 x5 s0 q1 M y h
      replace h := ao_ifF h (by decide)
      replace h := ao_ifT h rfl
      obtain ⟨hk3, h⟩ := ao_some h
      obtain ⟨p4, hp4, h⟩ := ao_bind h
      refine an_callVi q1 12 (q := (RX12, TX12, 83)) [.int s0] (aX12_fails (d - 1) (by omega) q1 s0 M ρ hp4) dX12_feed_19 lc_X12_497 li_X12_fails ls_X12_fails rfl hk3 rfl rfl (Nat.le_of_ble_eq_true rfl) (ao_hR (by omega) (by decide)) ?_
      refine ao_if_eq 27 dX12_feed_22 (by decide) (fun c5 => ?_) (fun c5 => ?_)
      · replace h := ao_ifT h c5
        refine ao_aload_n 0 dX12_feed_27 rfl rfl ?_
        refine ao_iload_n 1 dX12_feed_28 rfl rfl ?_
        obtain ⟨hk6, h⟩ := ao_some h
        obtain ⟨p7, hp7, h⟩ := ao_bind h
        refine an_callVv r0 12 (q := (RX12, TX12, 83)) [.int x1] (aX12_four (d - 1) (by omega) _ r0 x1 p4.2 ρ hp7) dX12_feed_29 lc_X12_500 li_X12_four ls_X12_four rfl hk6 rfl rfl (Nat.le_of_ble_eq_true rfl) (ao_hR (by omega) (by decide)) ?_
        refine ao_aload_n 0 dX12_feed_32 rfl rfl ?_
        refine ao_iload_n 2 dX12_feed_33 rfl rfl ?_
        obtain ⟨p8, hp8, h⟩ := ao_bind h
        refine an_callVv r0 12 (q := (RX12, TX12, 83)) [.int x2] (aX12_four (d - 1) (by omega) _ r0 x2 p7 ρ hp8) dX12_feed_34 lc_X12_500 li_X12_four ls_X12_four rfl hk6 rfl rfl (Nat.le_of_ble_eq_true rfl) (ao_hR (by omega) (by decide)) ?_
        refine ao_aload_n 0 dX12_feed_37 rfl rfl ?_
        refine ao_iload_n 3 dX12_feed_38 rfl rfl ?_
        obtain ⟨p9, hp9, h⟩ := ao_bind h
        refine an_callVv r0 12 (q := (RX12, TX12, 83)) [.int x3] (aX12_four (d - 1) (by omega) _ r0 x3 p8 ρ hp9) dX12_feed_39 lc_X12_500 li_X12_four ls_X12_four rfl hk6 rfl rfl (Nat.le_of_ble_eq_true rfl) (ao_hR (by omega) (by decide)) ?_
        refine ao_aload_n 0 dX12_feed_42 rfl rfl ?_
        refine ao_iload 4 dX12_feed_43 rfl ?_
        obtain ⟨p10, hp10, h⟩ := ao_bind h
        refine an_callVv r0 12 (q := (RX12, TX12, 83)) [.int x4] (aX12_four (d - 1) (by omega) _ r0 x4 p9 ρ hp10) dX12_feed_45 lc_X12_500 li_X12_four ls_X12_four rfl hk6 rfl rfl (Nat.le_of_ble_eq_true rfl) (ao_hR (by omega) (by decide)) ?_
        refine ao_aload_n 0 dX12_feed_48 rfl rfl ?_
        refine ao_iload 5 dX12_feed_49 rfl ?_
        obtain ⟨p11, hp11, h⟩ := ao_bind h
        refine an_callVv r0 12 (q := (RX12, TX12, 83)) [.int x5] (aX12_four (d - 1) (by omega) _ r0 x5 p10 ρ hp11) dX12_feed_51 lc_X12_500 li_X12_four ls_X12_four rfl hk6 rfl rfl (Nat.le_of_ble_eq_true rfl) (ao_hR (by omega) (by decide)) ?_
        refine ao_aload_n 0 dX12_feed_54 rfl rfl ?_
        refine an_getI r0 12 6 (q := (RX12, TX12, 83)) dX12_feed_55 rfl hk6 (Nat.le_of_ble_eq_true rfl) rfl lf_X12_494 ?_
        cases h
        exact ao_ireturn dX12_feed_58 rfl rfl ⟨rfl, rfl⟩
      · replace h := ao_ifF h c5
        refine ao_iconst (v := 0) dX12_feed_25 (by decide) ?_
        cases h
        exact ao_ireturn dX12_feed_26 rfl rfl ⟨rfl, rfl⟩
set_option maxRecDepth 100000 in
set_option maxHeartbeats 4000000 in
theorem aX12_feed {Γ : ao_C} (d : Nat) (hd : 1 ≤ d) (n : Nat) (r0 : Nat) (x1 : Int32) (x2 : Int32) (x3 : Int32) (x4 : Int32) (x5 : Int32) (M : ao_M) (ρ : ao_H) {y : Int32 × ao_M} (h : gX12_feed n r0 x1 x2 x3 x4 x5 M ρ = some y) : ao_A Γ uX12_feed d 0 0 [.ref (Γ.2.2.2 + r0), .int x1, .int x2, .int x3, .int x4, .int x5] (M, ρ) (ao_PI ρ y) := by
  refine ao_of (by decide) (ao_cat1 (Nat.le_of_ble_eq_true rfl)) (Nat.le_of_ble_eq_true rfl) ?_
  show ao_W Γ uX12_feed (ao_rm d 0 0) (ao_Q Γ (ao_PI ρ y) 0 0) 0 0 0 [some (.ref (Γ.2.2.2 + r0)), some (.int x1), some (.int x2), some (.int x3), some (.int x4), some (.int x5)] [] (M, ρ)
  exact (wX12_feed d hd n).1 r0 x1 x2 x3 x4 x5 M y h

abbrev uX12_turn : ao_Mi := (yX12_turn, cX12_turn, 3, (some .int), [])
def fX12_turn : Nat → Nat → Nat → Int32 → Int32 → Nat →  ao_M → ao_H → Option (Int32 × ao_S)
  | 0, _, _, _, _, _, _, _ => none
  | n + 1, pc, r0, x1, s0, q1, M, ρ =>
    if pc = 0 then
      (gX12_isThread x1 M ρ).bind fun p1 =>
      if p1.1 = 0 then
        fX12_turn n 27 r0 x1 (1 : Int32) r0 p1.2 ρ
      else
        if ρ.2.1 r0 = 22 then
        if (p1.2 r0 65) = (20000 : Int32) then
          fX12_turn n 27 r0 x1 (2 : Int32) r0 p1.2 ρ
        else
          fX12_turn n 27 r0 x1 (0 : Int32) r0 p1.2 ρ
        else none
    else if pc = 27 then
      if ρ.2.1 q1 = 22 then
      (gX12_fails q1 s0 M ρ).bind fun p6 =>
      if p6.1 = 0 then
        if ρ.2.1 r0 = 22 then
        (gX12_takeTurn n r0 x1 p6.2 ρ).bind fun p9 =>
        fX12_turn n 40 r0 x1 p9.1 0 p9.2.1 p9.2.2
        else none
      else
        some ((0 : Int32), p6.2, ρ)
      else none
    else if pc = 40 then
      if ρ.2.1 r0 = 22 then
      ao_let (ao_u M r0 65 ((M r0 65) + (1 : Int32))) fun M11 =>
      some (s0, M11, ρ)
      else none
    else none
def gX12_turn (n : Nat) (r0 : Nat) (x1 : Int32) (M : ao_M) (ρ : ao_H) : Option (Int32 × ao_S) := fX12_turn n 0 r0 x1 0 0 M ρ
set_option maxRecDepth 100000 in
set_option maxHeartbeats 4000000 in
theorem mX12_turn : ∀ n : Nat, (∀ (r0 : Nat) (x1 : Int32) (M : ao_M) (ρ : ao_H) (y : Int32 × ao_S), fX12_turn n 0 r0 x1 0 0 M ρ = some y → ao_le ρ y.2.2) ∧ (∀ (r0 : Nat) (x1 : Int32) (s0 : Int32) (q1 : Nat) (M : ao_M) (ρ : ao_H) (y : Int32 × ao_S), fX12_turn n 27 r0 x1 s0 q1 M ρ = some y → ao_le ρ y.2.2) ∧ (∀ (r0 : Nat) (x1 : Int32) (s0 : Int32) (M : ao_M) (ρ : ao_H) (y : Int32 × ao_S), fX12_turn n 40 r0 x1 s0 0 M ρ = some y → ao_le ρ y.2.2) := by
  intro n
  induction n with
  | zero => exact ⟨fun _ _ _ _ _ h => ao_no h, fun _ _ _ _ _ _ _ h => ao_no h, fun _ _ _ _ _ _ h => ao_no h⟩
  | succ n ih =>
    refine ⟨?_, ?_, ?_⟩
    · intro r0 x1 M ρ y h
      replace h := ao_ifT h rfl
      obtain ⟨p1, hp1, h⟩ := ao_bind h
      rcases ao_ifC h with h | h
      · exact ih.2.1 r0 x1 (1 : Int32) r0 p1.2 ρ _ h
      · obtain ⟨-, h⟩ := ao_some h
        rcases ao_ifC h with h | h
        · exact ih.2.1 r0 x1 (2 : Int32) r0 p1.2 ρ _ h
        · exact ih.2.1 r0 x1 (0 : Int32) r0 p1.2 ρ _ h
    · intro r0 x1 s0 q1 M ρ y h
      replace h := ao_ifF h (by decide)
      replace h := ao_ifT h rfl
      obtain ⟨-, h⟩ := ao_some h
      obtain ⟨p6, hp6, h⟩ := ao_bind h
      rcases ao_ifC h with h | h
      · obtain ⟨-, h⟩ := ao_some h
        obtain ⟨p9, hp9, h⟩ := ao_bind h
        exact ao_le_tr (me_X12_takeTurn n r0 x1 p6.2 ρ hp9) (ih.2.2 r0 x1 p9.1 p9.2.1 p9.2.2 _ h)
      · cases h
        exact ao_le_rf _
    · intro r0 x1 s0 M ρ y h
      replace h := ao_ifF h (by decide)
      replace h := ao_ifF h (by decide)
      replace h := ao_ifT h rfl
      obtain ⟨-, h⟩ := ao_some h
      replace h := ao_letD h rfl
      generalize (ao_u M r0 65 ((M r0 65) + (1 : Int32))) = M11 at h
      cases h
      exact ao_le_rf _
set_option maxRecDepth 100000 in
set_option maxHeartbeats 4000000 in
theorem wX12_turn {Γ : ao_C} (d : Nat) (hd : 10 ≤ d) (MC MS : Nat) : ∀ n : Nat, (∀ (r0 : Nat) (x1 : Int32) (M : ao_M) (ρ : ao_H) (y : Int32 × ao_S), fX12_turn n 0 r0 x1 0 0 M ρ = some y → ao_W Γ uX12_turn (ao_rm d MC MS) (ao_Q Γ (ao_QI y) MC MS) (ao_dc ρ y.2.2) (ao_ds ρ y.2.2) 0 [some (.ref (Γ.2.2.2 + r0)), some (.int x1), none] [] (M, ρ)) ∧ (∀ (r0 : Nat) (x1 : Int32) (s0 : Int32) (q1 : Nat) (M : ao_M) (ρ : ao_H) (y : Int32 × ao_S), fX12_turn n 27 r0 x1 s0 q1 M ρ = some y → ao_W Γ uX12_turn (ao_rm d MC MS) (ao_Q Γ (ao_QI y) MC MS) (ao_dc ρ y.2.2) (ao_ds ρ y.2.2) 27 [some (.ref (Γ.2.2.2 + r0)), some (.int x1), none] [.int s0, .ref (Γ.2.2.2 + q1)] (M, ρ)) ∧ (∀ (r0 : Nat) (x1 : Int32) (s0 : Int32) (M : ao_M) (ρ : ao_H) (y : Int32 × ao_S), fX12_turn n 40 r0 x1 s0 0 M ρ = some y → ao_W Γ uX12_turn (ao_rm d MC MS) (ao_Q Γ (ao_QI y) MC MS) (ao_dc ρ y.2.2) (ao_ds ρ y.2.2) 40 [some (.ref (Γ.2.2.2 + r0)), some (.int x1), none] [.int s0] (M, ρ)) := by
  intro n
  induction n with
  | zero => exact ⟨fun _ _ _ _ _ h => ao_no h, fun _ _ _ _ _ _ _ h => ao_no h, fun _ _ _ _ _ _ h => ao_no h⟩
  | succ n ih =>
    refine ⟨?_, ?_, ?_⟩
    · intro r0 x1 M ρ y h
      replace h := ao_ifT h rfl
      refine ao_aload_n 0 dX12_turn_0 rfl rfl ?_
      refine ao_iload_n 1 dX12_turn_1 rfl rfl ?_
      obtain ⟨p1, hp1, h⟩ := ao_bind h
      refine an_callSi [.int x1] (aX12_isThread (d - 1) (by omega) x1 M ρ hp1) dX12_turn_2 lc_X12_503 lt_X12_isThread rfl rfl (Nat.le_of_ble_eq_true rfl) (ao_hR (by omega) (by decide)) ?_
      refine ao_if_ne 12 dX12_turn_5 (by decide) (fun c2 => ?_) (fun c2 => ?_)
      · replace h := ao_ifF h c2
        refine ao_aload_n 0 dX12_turn_12 rfl rfl ?_
        obtain ⟨hk3, h⟩ := ao_some h
        refine an_getI r0 12 65 (q := (RX12, TX12, 83)) dX12_turn_13 rfl hk3 (Nat.le_of_ble_eq_true rfl) rfl lf_X12_341 ?_
        refine ao_sipush (v := 20000) dX12_turn_16 (by decide) ?_
        refine ao_icmp_ne 26 dX12_turn_19 (by decide) (fun c4 => ?_) (fun c4 => ?_)
        · replace h := ao_ifF h c4
          refine ao_iconst (v := 0) dX12_turn_26 (by decide) ?_
          exact ih.2.1 r0 x1 (0 : Int32) r0 p1.2 ρ _ h
        · replace h := ao_ifT h c4
          refine ao_iconst (v := 2) dX12_turn_22 (by decide) ?_
          refine ao_goto 27 dX12_turn_23 (by decide) ?_
          exact ih.2.1 r0 x1 (2 : Int32) r0 p1.2 ρ _ h
      · replace h := ao_ifT h c2
        refine ao_iconst (v := 1) dX12_turn_8 (by decide) ?_
        refine ao_goto 27 dX12_turn_9 (by decide) ?_
        exact ih.2.1 r0 x1 (1 : Int32) r0 p1.2 ρ _ h
    · intro r0 x1 s0 q1 M ρ y h
      replace h := ao_ifF h (by decide)
      replace h := ao_ifT h rfl
      obtain ⟨hk5, h⟩ := ao_some h
      obtain ⟨p6, hp6, h⟩ := ao_bind h
      refine an_callVi q1 12 (q := (RX12, TX12, 83)) [.int s0] (aX12_fails (d - 1) (by omega) q1 s0 M ρ hp6) dX12_turn_27 lc_X12_497 li_X12_fails ls_X12_fails rfl hk5 rfl rfl (Nat.le_of_ble_eq_true rfl) (ao_hR (by omega) (by decide)) ?_
      refine ao_if_eq 35 dX12_turn_30 (by decide) (fun c7 => ?_) (fun c7 => ?_)
      · replace h := ao_ifT h c7
        refine ao_aload_n 0 dX12_turn_35 rfl rfl ?_
        refine ao_iload_n 1 dX12_turn_36 rfl rfl ?_
        obtain ⟨hk8, h⟩ := ao_some h
        obtain ⟨p9, hp9, h⟩ := ao_bind h
        refine ba_callVi r0 12 (q := (RX12, TX12, 83)) [.int x1] (aX12_takeTurn (d - 1) (by omega) n r0 x1 p6.2 ρ hp9) dX12_turn_37 lc_X12_512 li_X12_takeTurn ls_X12_takeTurn rfl hk8 rfl rfl (Nat.le_of_ble_eq_true rfl) (ao_hR (by omega) (by decide)) (ao_leC (me_X12_takeTurn n r0 x1 p6.2 ρ hp9) ((mX12_turn n).2.2 r0 x1 p9.1 p9.2.1 p9.2.2 _ h)) (ao_leS (me_X12_takeTurn n r0 x1 p6.2 ρ hp9) ((mX12_turn n).2.2 r0 x1 p9.1 p9.2.1 p9.2.2 _ h)) ?_
        exact ih.2.2 r0 x1 p9.1 p9.2.1 p9.2.2 _ h
      · replace h := ao_ifF h c7
        refine ao_iconst (v := 0) dX12_turn_33 (by decide) ?_
        cases h
        exact ao_ireturn dX12_turn_34 rfl rfl ⟨rfl, rfl⟩
    · intro r0 x1 s0 M ρ y h
      replace h := ao_ifF h (by decide)
      replace h := ao_ifF h (by decide)
      replace h := ao_ifT h rfl
      refine ao_istore_n 2 (lo' := [some (.ref (Γ.2.2.2 + r0)), some (.int x1), some (.int s0)]) dX12_turn_40 rfl (Nat.le_of_ble_eq_true rfl) rfl ?_
      refine ao_aload_n 0 dX12_turn_41 rfl rfl ?_
      refine ao_dup dX12_turn_42 rfl ?_
      obtain ⟨hk10, h⟩ := ao_some h
      refine an_getI r0 12 65 (q := (RX12, TX12, 83)) dX12_turn_43 rfl hk10 (Nat.le_of_ble_eq_true rfl) rfl lf_X12_341 ?_
      refine ao_iconst (v := 1) dX12_turn_46 (by decide) ?_
      refine ao_iadd dX12_turn_47 ?_
      refine an_putI r0 12 65 (q := (RX12, TX12, 83)) dX12_turn_48 rfl hk10 (Nat.le_of_ble_eq_true rfl) lf_X12_341 rfl rfl rfl rfl (fun M11 hM11 => ?_)
      replace h := ao_letD h hM11
      refine ao_iload_n 2 dX12_turn_51 rfl rfl ?_
      cases h
      exact ao_ireturn dX12_turn_52 rfl rfl ⟨rfl, rfl⟩
theorem me_X12_turn (n : Nat) (r0 : Nat) (x1 : Int32) (M : ao_M) (ρ : ao_H) {y : Int32 × ao_S} (h : gX12_turn n r0 x1 M ρ = some y) : ao_le ρ y.2.2 := (mX12_turn n).1 r0 x1 M ρ y h
set_option maxRecDepth 100000 in
set_option maxHeartbeats 4000000 in
theorem aX12_turn {Γ : ao_C} (d : Nat) (hd : 10 ≤ d) (n : Nat) (r0 : Nat) (x1 : Int32) (M : ao_M) (ρ : ao_H) {y : Int32 × ao_S} (h : gX12_turn n r0 x1 M ρ = some y) : ao_A Γ uX12_turn d (ao_dc ρ y.2.2) (ao_ds ρ y.2.2) [.ref (Γ.2.2.2 + r0), .int x1] (M, ρ) (ao_QI y) := by
  refine ao_of (by decide) (ao_cat1 (Nat.le_of_ble_eq_true rfl)) (Nat.le_of_ble_eq_true rfl) ?_
  show ao_W Γ uX12_turn (ao_rm d (ao_dc ρ y.2.2) (ao_ds ρ y.2.2)) (ao_Q Γ (ao_QI y) (ao_dc ρ y.2.2) (ao_ds ρ y.2.2)) (ao_dc ρ y.2.2) (ao_ds ρ y.2.2) 0 [some (.ref (Γ.2.2.2 + r0)), some (.int x1), none] [] (M, ρ)
  exact (wX12_turn d hd _ _ n).1 r0 x1 M ρ y h

abbrev uX12_round : ao_Mi := (yX12_round, cX12_round, 7, (some .int), [])
def fX12_round : Nat → Nat → Nat → Int32 → Int32 → Int32 → Int32 → Int32 → Int32 → Nat → Int32 → Nat →  ao_M → ao_H → Option (Int32 × ao_S)
  | 0, _, _, _, _, _, _, _, _, _, _, _, _, _ => none
  | n + 1, pc, r0, x1, x2, x3, x4, x5, x6, q0, s0, q1, M, ρ =>
    if pc = 0 then
      if x1 < 0 then
        fX12_round n 12 r0 x1 0 0 0 0 0 r0 0 0 M ρ
      else
        if x1 ≤ (2000 : Int32) then
          fX12_round n 17 r0 x1 0 0 0 0 0 0 (0 : Int32) r0 M ρ
        else
          fX12_round n 12 r0 x1 0 0 0 0 0 r0 0 0 M ρ
    else if pc = 12 then
      fX12_round n 17 r0 x1 0 0 0 0 0 0 (1 : Int32) q0 M ρ
    else if pc = 17 then
      if ρ.2.1 q1 = 22 then
      (gX12_fails q1 s0 M ρ).bind fun p4 =>
      if p4.1 = 0 then
        fX12_round n 32 r0 x1 (0 : Int32) (0 : Int32) (0 : Int32) 0 0 0 0 0 p4.2 ρ
      else
        some ((0 : Int32), p4.2, ρ)
      else none
    else if pc = 32 then
      if x1 ≤ x2 then
        some (x2, M, ρ)
      else
        if ρ.2.1 r0 = 22 then
        if (20000 : Int32) ≤ (M r0 65) then
          some (x2, M, ρ)
        else
          fX12_round n 53 r0 x1 x2 x3 x4 (0 : Int32) (0 : Int32) 0 0 0 M ρ
        else none
    else if pc = 53 then
      if (6 : Int32) ≤ x6 then
        if x5 = 0 then
          some (x2, M, ρ)
        else
          if x3 < x5 then
            if ρ.2.1 r0 = 22 then
            (gX12_isLive n r0 x4 M ρ).bind fun p13 =>
            if p13.1 = 0 then
              fX12_round n 141 r0 x1 x2 x3 x4 x5 x6 0 0 0 p13.2 ρ
            else
              (gX12_takeTurn n r0 x4 p13.2 ρ).bind fun p15 =>
              fX12_round n 106 r0 x1 x2 x3 x4 x5 x6 0 p15.1 0 p15.2.1 p15.2.2
            else none
          else
            some (x2, M, ρ)
      else
        if ρ.2.1 r0 = 22 then
        (gX12_isLive n r0 x6 M ρ).bind fun p17 =>
        if p17.1 = 0 then
          fX12_round n 72 r0 x1 x2 x3 x4 x5 x6 0 0 0 p17.2 ρ
        else
          ao_let (x5 + (1 : Int32)) fun v19 =>
          fX12_round n 72 r0 x1 x2 x3 x4 v19 x6 0 0 0 p17.2 ρ
        else none
    else if pc = 72 then
      ao_let (x6 + (1 : Int32)) fun v20 =>
      fX12_round n 53 r0 x1 x2 x3 x4 x5 v20 0 0 0 M ρ
    else if pc = 106 then
      if ρ.2.1 r0 = 22 then
      ao_let (ao_u M r0 65 ((M r0 65) + (1 : Int32))) fun M22 =>
      ao_let (x2 + (1 : Int32)) fun v23 =>
      if s0 = (3 : Int32) then
        fX12_round n 133 r0 x1 v23 x3 x4 x5 s0 0 0 0 M22 ρ
      else
        if s0 = (4 : Int32) then
          fX12_round n 133 r0 x1 v23 x3 x4 x5 s0 0 0 0 M22 ρ
        else
          fX12_round n 140 r0 x1 v23 x3 x4 x5 s0 0 (0 : Int32) 0 M22 ρ
      else none
    else if pc = 133 then
      fX12_round n 140 r0 x1 x2 x3 x4 x5 x6 0 (x3 + (1 : Int32)) 0 M ρ
    else if pc = 140 then
      fX12_round n 141 r0 x1 x2 s0 x4 x5 x6 0 0 0 M ρ
    else if pc = 141 then
      ao_let ((x4 + (1 : Int32)) - (x4 + (1 : Int32)) / (6 : Int32) * (6 : Int32)) fun v26 =>
      fX12_round n 32 r0 x1 x2 x3 v26 0 0 0 0 0 M ρ
    else none
def gX12_round (n : Nat) (r0 : Nat) (x1 : Int32) (M : ao_M) (ρ : ao_H) : Option (Int32 × ao_S) := fX12_round n 0 r0 x1 0 0 0 0 0 0 0 0 M ρ
set_option maxRecDepth 100000 in
set_option maxHeartbeats 4000000 in
theorem mX12_round : ∀ n : Nat, (∀ (r0 : Nat) (x1 : Int32) (M : ao_M) (ρ : ao_H) (y : Int32 × ao_S), fX12_round n 0 r0 x1 0 0 0 0 0 0 0 0 M ρ = some y → ao_le ρ y.2.2) ∧ (∀ (r0 : Nat) (x1 : Int32) (q0 : Nat) (M : ao_M) (ρ : ao_H) (y : Int32 × ao_S), fX12_round n 12 r0 x1 0 0 0 0 0 q0 0 0 M ρ = some y → ao_le ρ y.2.2) ∧ (∀ (r0 : Nat) (x1 : Int32) (s0 : Int32) (q1 : Nat) (M : ao_M) (ρ : ao_H) (y : Int32 × ao_S), fX12_round n 17 r0 x1 0 0 0 0 0 0 s0 q1 M ρ = some y → ao_le ρ y.2.2) ∧ (∀ (r0 : Nat) (x1 : Int32) (x2 : Int32) (x3 : Int32) (x4 : Int32) (M : ao_M) (ρ : ao_H) (y : Int32 × ao_S), fX12_round n 32 r0 x1 x2 x3 x4 0 0 0 0 0 M ρ = some y → ao_le ρ y.2.2) ∧ (∀ (r0 : Nat) (x1 : Int32) (x2 : Int32) (x3 : Int32) (x4 : Int32) (x5 : Int32) (x6 : Int32) (M : ao_M) (ρ : ao_H) (y : Int32 × ao_S), fX12_round n 53 r0 x1 x2 x3 x4 x5 x6 0 0 0 M ρ = some y → ao_le ρ y.2.2) ∧ (∀ (r0 : Nat) (x1 : Int32) (x2 : Int32) (x3 : Int32) (x4 : Int32) (x5 : Int32) (x6 : Int32) (M : ao_M) (ρ : ao_H) (y : Int32 × ao_S), fX12_round n 72 r0 x1 x2 x3 x4 x5 x6 0 0 0 M ρ = some y → ao_le ρ y.2.2) ∧ (∀ (r0 : Nat) (x1 : Int32) (x2 : Int32) (x3 : Int32) (x4 : Int32) (x5 : Int32) (x6 : Int32) (s0 : Int32) (M : ao_M) (ρ : ao_H) (y : Int32 × ao_S), fX12_round n 106 r0 x1 x2 x3 x4 x5 x6 0 s0 0 M ρ = some y → ao_le ρ y.2.2) ∧ (∀ (r0 : Nat) (x1 : Int32) (x2 : Int32) (x3 : Int32) (x4 : Int32) (x5 : Int32) (x6 : Int32) (M : ao_M) (ρ : ao_H) (y : Int32 × ao_S), fX12_round n 133 r0 x1 x2 x3 x4 x5 x6 0 0 0 M ρ = some y → ao_le ρ y.2.2) ∧ (∀ (r0 : Nat) (x1 : Int32) (x2 : Int32) (x3 : Int32) (x4 : Int32) (x5 : Int32) (x6 : Int32) (s0 : Int32) (M : ao_M) (ρ : ao_H) (y : Int32 × ao_S), fX12_round n 140 r0 x1 x2 x3 x4 x5 x6 0 s0 0 M ρ = some y → ao_le ρ y.2.2) ∧ (∀ (r0 : Nat) (x1 : Int32) (x2 : Int32) (x3 : Int32) (x4 : Int32) (x5 : Int32) (x6 : Int32) (M : ao_M) (ρ : ao_H) (y : Int32 × ao_S), fX12_round n 141 r0 x1 x2 x3 x4 x5 x6 0 0 0 M ρ = some y → ao_le ρ y.2.2) := by
  intro n
  induction n with
  | zero => exact ⟨fun _ _ _ _ _ h => ao_no h, fun _ _ _ _ _ _ h => ao_no h, fun _ _ _ _ _ _ _ h => ao_no h, fun _ _ _ _ _ _ _ _ h => ao_no h, fun _ _ _ _ _ _ _ _ _ _ h => ao_no h, fun _ _ _ _ _ _ _ _ _ _ h => ao_no h, fun _ _ _ _ _ _ _ _ _ _ _ h => ao_no h, fun _ _ _ _ _ _ _ _ _ _ h => ao_no h, fun _ _ _ _ _ _ _ _ _ _ _ h => ao_no h, fun _ _ _ _ _ _ _ _ _ _ h => ao_no h⟩
  | succ n ih =>
    refine ⟨?_, ?_, ?_, ?_, ?_, ?_, ?_, ?_, ?_, ?_⟩
    · intro r0 x1 M ρ y h
      replace h := ao_ifT h rfl
      rcases ao_ifC h with h | h
      · exact ih.2.1 r0 x1 r0 M ρ _ h
      · rcases ao_ifC h with h | h
        · exact ih.2.2.1 r0 x1 (0 : Int32) r0 M ρ _ h
        · exact ih.2.1 r0 x1 r0 M ρ _ h
    · intro r0 x1 q0 M ρ y h
      replace h := ao_ifF h (by decide)
      replace h := ao_ifT h rfl
      exact ih.2.2.1 r0 x1 (1 : Int32) q0 M ρ _ h
    · intro r0 x1 s0 q1 M ρ y h
      replace h := ao_ifF h (by decide)
      replace h := ao_ifF h (by decide)
      replace h := ao_ifT h rfl
      obtain ⟨-, h⟩ := ao_some h
      obtain ⟨p4, hp4, h⟩ := ao_bind h
      rcases ao_ifC h with h | h
      · exact ih.2.2.2.1 r0 x1 (0 : Int32) (0 : Int32) (0 : Int32) p4.2 ρ _ h
      · cases h
        exact ao_le_rf _
    · intro r0 x1 x2 x3 x4 M ρ y h
      replace h := ao_ifF h (by decide)
      replace h := ao_ifF h (by decide)
      replace h := ao_ifF h (by decide)
      replace h := ao_ifT h rfl
      rcases ao_ifC h with h | h
      · cases h
        exact ao_le_rf _
      · obtain ⟨-, h⟩ := ao_some h
        rcases ao_ifC h with h | h
        · cases h
          exact ao_le_rf _
        · exact ih.2.2.2.2.1 r0 x1 x2 x3 x4 (0 : Int32) (0 : Int32) M ρ _ h
    · intro r0 x1 x2 x3 x4 x5 x6 M ρ y h
      replace h := ao_ifF h (by decide)
      replace h := ao_ifF h (by decide)
      replace h := ao_ifF h (by decide)
      replace h := ao_ifF h (by decide)
      replace h := ao_ifT h rfl
      rcases ao_ifC h with h | h
      · rcases ao_ifC h with h | h
        · cases h
          exact ao_le_rf _
        · rcases ao_ifC h with h | h
          · obtain ⟨-, h⟩ := ao_some h
            obtain ⟨p13, hp13, h⟩ := ao_bind h
            rcases ao_ifC h with h | h
            · exact ih.2.2.2.2.2.2.2.2.2 r0 x1 x2 x3 x4 x5 x6 p13.2 ρ _ h
            · obtain ⟨p15, hp15, h⟩ := ao_bind h
              exact ao_le_tr (me_X12_takeTurn n r0 x4 p13.2 ρ hp15) (ih.2.2.2.2.2.2.1 r0 x1 x2 x3 x4 x5 x6 p15.1 p15.2.1 p15.2.2 _ h)
          · cases h
            exact ao_le_rf _
      · obtain ⟨-, h⟩ := ao_some h
        obtain ⟨p17, hp17, h⟩ := ao_bind h
        rcases ao_ifC h with h | h
        · exact ih.2.2.2.2.2.1 r0 x1 x2 x3 x4 x5 x6 p17.2 ρ _ h
        · replace h := ao_letD h rfl
          generalize (x5 + (1 : Int32)) = v19 at h
          exact ih.2.2.2.2.2.1 r0 x1 x2 x3 x4 v19 x6 p17.2 ρ _ h
    · intro r0 x1 x2 x3 x4 x5 x6 M ρ y h
      replace h := ao_ifF h (by decide)
      replace h := ao_ifF h (by decide)
      replace h := ao_ifF h (by decide)
      replace h := ao_ifF h (by decide)
      replace h := ao_ifF h (by decide)
      replace h := ao_ifT h rfl
      replace h := ao_letD h rfl
      generalize (x6 + (1 : Int32)) = v20 at h
      exact ih.2.2.2.2.1 r0 x1 x2 x3 x4 x5 v20 M ρ _ h
    · intro r0 x1 x2 x3 x4 x5 x6 s0 M ρ y h
      replace h := ao_ifF h (by decide)
      replace h := ao_ifF h (by decide)
      replace h := ao_ifF h (by decide)
      replace h := ao_ifF h (by decide)
      replace h := ao_ifF h (by decide)
      replace h := ao_ifF h (by decide)
      replace h := ao_ifT h rfl
      obtain ⟨-, h⟩ := ao_some h
      replace h := ao_letD h rfl
      generalize (ao_u M r0 65 ((M r0 65) + (1 : Int32))) = M22 at h
      replace h := ao_letD h rfl
      generalize (x2 + (1 : Int32)) = v23 at h
      rcases ao_ifC h with h | h
      · exact ih.2.2.2.2.2.2.2.1 r0 x1 v23 x3 x4 x5 s0 M22 ρ _ h
      · rcases ao_ifC h with h | h
        · exact ih.2.2.2.2.2.2.2.1 r0 x1 v23 x3 x4 x5 s0 M22 ρ _ h
        · exact ih.2.2.2.2.2.2.2.2.1 r0 x1 v23 x3 x4 x5 s0 (0 : Int32) M22 ρ _ h
    · intro r0 x1 x2 x3 x4 x5 x6 M ρ y h
      replace h := ao_ifF h (by decide)
      replace h := ao_ifF h (by decide)
      replace h := ao_ifF h (by decide)
      replace h := ao_ifF h (by decide)
      replace h := ao_ifF h (by decide)
      replace h := ao_ifF h (by decide)
      replace h := ao_ifF h (by decide)
      replace h := ao_ifT h rfl
      exact ih.2.2.2.2.2.2.2.2.1 r0 x1 x2 x3 x4 x5 x6 (x3 + (1 : Int32)) M ρ _ h
    · intro r0 x1 x2 x3 x4 x5 x6 s0 M ρ y h
      replace h := ao_ifF h (by decide)
      replace h := ao_ifF h (by decide)
      replace h := ao_ifF h (by decide)
      replace h := ao_ifF h (by decide)
      replace h := ao_ifF h (by decide)
      replace h := ao_ifF h (by decide)
      replace h := ao_ifF h (by decide)
      replace h := ao_ifF h (by decide)
      replace h := ao_ifT h rfl
      exact ih.2.2.2.2.2.2.2.2.2 r0 x1 x2 s0 x4 x5 x6 M ρ _ h
    · intro r0 x1 x2 x3 x4 x5 x6 M ρ y h
      replace h := ao_ifF h (by decide)
      replace h := ao_ifF h (by decide)
      replace h := ao_ifF h (by decide)
      replace h := ao_ifF h (by decide)
      replace h := ao_ifF h (by decide)
      replace h := ao_ifF h (by decide)
      replace h := ao_ifF h (by decide)
      replace h := ao_ifF h (by decide)
      replace h := ao_ifF h (by decide)
      replace h := ao_ifT h rfl
      replace h := ao_letD h rfl
      generalize ((x4 + (1 : Int32)) - (x4 + (1 : Int32)) / (6 : Int32) * (6 : Int32)) = v26 at h
      exact ih.2.2.2.1 r0 x1 x2 x3 v26 M ρ _ h
set_option maxRecDepth 100000 in
set_option maxHeartbeats 4000000 in
theorem wX12_round {Γ : ao_C} (d : Nat) (hd : 10 ≤ d) (MC MS : Nat) : ∀ n : Nat, (∀ (r0 : Nat) (x1 : Int32) (M : ao_M) (ρ : ao_H) (y : Int32 × ao_S), fX12_round n 0 r0 x1 0 0 0 0 0 0 0 0 M ρ = some y → ao_W Γ uX12_round (ao_rm d MC MS) (ao_Q Γ (ao_QI y) MC MS) (ao_dc ρ y.2.2) (ao_ds ρ y.2.2) 0 [some (.ref (Γ.2.2.2 + r0)), some (.int x1), none, none, none, none, none] [] (M, ρ)) ∧ (∀ (r0 : Nat) (x1 : Int32) (q0 : Nat) (M : ao_M) (ρ : ao_H) (y : Int32 × ao_S), fX12_round n 12 r0 x1 0 0 0 0 0 q0 0 0 M ρ = some y → ao_W Γ uX12_round (ao_rm d MC MS) (ao_Q Γ (ao_QI y) MC MS) (ao_dc ρ y.2.2) (ao_ds ρ y.2.2) 12 [some (.ref (Γ.2.2.2 + r0)), some (.int x1), none, none, none, none, none] [.ref (Γ.2.2.2 + q0)] (M, ρ)) ∧ (∀ (r0 : Nat) (x1 : Int32) (s0 : Int32) (q1 : Nat) (M : ao_M) (ρ : ao_H) (y : Int32 × ao_S), fX12_round n 17 r0 x1 0 0 0 0 0 0 s0 q1 M ρ = some y → ao_W Γ uX12_round (ao_rm d MC MS) (ao_Q Γ (ao_QI y) MC MS) (ao_dc ρ y.2.2) (ao_ds ρ y.2.2) 17 [some (.ref (Γ.2.2.2 + r0)), some (.int x1), none, none, none, none, none] [.int s0, .ref (Γ.2.2.2 + q1)] (M, ρ)) ∧ (∀ (r0 : Nat) (x1 : Int32) (x2 : Int32) (x3 : Int32) (x4 : Int32) (M : ao_M) (ρ : ao_H) (y : Int32 × ao_S), fX12_round n 32 r0 x1 x2 x3 x4 0 0 0 0 0 M ρ = some y → ao_W Γ uX12_round (ao_rm d MC MS) (ao_Q Γ (ao_QI y) MC MS) (ao_dc ρ y.2.2) (ao_ds ρ y.2.2) 32 [some (.ref (Γ.2.2.2 + r0)), some (.int x1), some (.int x2), some (.int x3), some (.int x4), none, none] [] (M, ρ)) ∧ (∀ (r0 : Nat) (x1 : Int32) (x2 : Int32) (x3 : Int32) (x4 : Int32) (x5 : Int32) (x6 : Int32) (M : ao_M) (ρ : ao_H) (y : Int32 × ao_S), fX12_round n 53 r0 x1 x2 x3 x4 x5 x6 0 0 0 M ρ = some y → ao_W Γ uX12_round (ao_rm d MC MS) (ao_Q Γ (ao_QI y) MC MS) (ao_dc ρ y.2.2) (ao_ds ρ y.2.2) 53 [some (.ref (Γ.2.2.2 + r0)), some (.int x1), some (.int x2), some (.int x3), some (.int x4), some (.int x5), some (.int x6)] [] (M, ρ)) ∧ (∀ (r0 : Nat) (x1 : Int32) (x2 : Int32) (x3 : Int32) (x4 : Int32) (x5 : Int32) (x6 : Int32) (M : ao_M) (ρ : ao_H) (y : Int32 × ao_S), fX12_round n 72 r0 x1 x2 x3 x4 x5 x6 0 0 0 M ρ = some y → ao_W Γ uX12_round (ao_rm d MC MS) (ao_Q Γ (ao_QI y) MC MS) (ao_dc ρ y.2.2) (ao_ds ρ y.2.2) 72 [some (.ref (Γ.2.2.2 + r0)), some (.int x1), some (.int x2), some (.int x3), some (.int x4), some (.int x5), some (.int x6)] [] (M, ρ)) ∧ (∀ (r0 : Nat) (x1 : Int32) (x2 : Int32) (x3 : Int32) (x4 : Int32) (x5 : Int32) (x6 : Int32) (s0 : Int32) (M : ao_M) (ρ : ao_H) (y : Int32 × ao_S), fX12_round n 106 r0 x1 x2 x3 x4 x5 x6 0 s0 0 M ρ = some y → ao_W Γ uX12_round (ao_rm d MC MS) (ao_Q Γ (ao_QI y) MC MS) (ao_dc ρ y.2.2) (ao_ds ρ y.2.2) 106 [some (.ref (Γ.2.2.2 + r0)), some (.int x1), some (.int x2), some (.int x3), some (.int x4), some (.int x5), some (.int x6)] [.int s0] (M, ρ)) ∧ (∀ (r0 : Nat) (x1 : Int32) (x2 : Int32) (x3 : Int32) (x4 : Int32) (x5 : Int32) (x6 : Int32) (M : ao_M) (ρ : ao_H) (y : Int32 × ao_S), fX12_round n 133 r0 x1 x2 x3 x4 x5 x6 0 0 0 M ρ = some y → ao_W Γ uX12_round (ao_rm d MC MS) (ao_Q Γ (ao_QI y) MC MS) (ao_dc ρ y.2.2) (ao_ds ρ y.2.2) 133 [some (.ref (Γ.2.2.2 + r0)), some (.int x1), some (.int x2), some (.int x3), some (.int x4), some (.int x5), some (.int x6)] [] (M, ρ)) ∧ (∀ (r0 : Nat) (x1 : Int32) (x2 : Int32) (x3 : Int32) (x4 : Int32) (x5 : Int32) (x6 : Int32) (s0 : Int32) (M : ao_M) (ρ : ao_H) (y : Int32 × ao_S), fX12_round n 140 r0 x1 x2 x3 x4 x5 x6 0 s0 0 M ρ = some y → ao_W Γ uX12_round (ao_rm d MC MS) (ao_Q Γ (ao_QI y) MC MS) (ao_dc ρ y.2.2) (ao_ds ρ y.2.2) 140 [some (.ref (Γ.2.2.2 + r0)), some (.int x1), some (.int x2), some (.int x3), some (.int x4), some (.int x5), some (.int x6)] [.int s0] (M, ρ)) ∧ (∀ (r0 : Nat) (x1 : Int32) (x2 : Int32) (x3 : Int32) (x4 : Int32) (x5 : Int32) (x6 : Int32) (M : ao_M) (ρ : ao_H) (y : Int32 × ao_S), fX12_round n 141 r0 x1 x2 x3 x4 x5 x6 0 0 0 M ρ = some y → ao_W Γ uX12_round (ao_rm d MC MS) (ao_Q Γ (ao_QI y) MC MS) (ao_dc ρ y.2.2) (ao_ds ρ y.2.2) 141 [some (.ref (Γ.2.2.2 + r0)), some (.int x1), some (.int x2), some (.int x3), some (.int x4), some (.int x5), some (.int x6)] [] (M, ρ)) := by
  intro n
  induction n with
  | zero => exact ⟨fun _ _ _ _ _ h => ao_no h, fun _ _ _ _ _ _ h => ao_no h, fun _ _ _ _ _ _ _ h => ao_no h, fun _ _ _ _ _ _ _ _ h => ao_no h, fun _ _ _ _ _ _ _ _ _ _ h => ao_no h, fun _ _ _ _ _ _ _ _ _ _ h => ao_no h, fun _ _ _ _ _ _ _ _ _ _ _ h => ao_no h, fun _ _ _ _ _ _ _ _ _ _ h => ao_no h, fun _ _ _ _ _ _ _ _ _ _ _ h => ao_no h, fun _ _ _ _ _ _ _ _ _ _ h => ao_no h⟩
  | succ n ih =>
    refine ⟨?_, ?_, ?_, ?_, ?_, ?_, ?_, ?_, ?_, ?_⟩
    · intro r0 x1 M ρ y h
      replace h := ao_ifT h rfl
      refine ao_aload_n 0 dX12_round_0 rfl rfl ?_
      refine ao_iload_n 1 dX12_round_1 rfl rfl ?_
      refine ao_if_lt 12 dX12_round_2 (by decide) (fun c1 => ?_) (fun c1 => ?_)
      · replace h := ao_ifT h c1
        exact ih.2.1 r0 x1 r0 M ρ _ h
      · replace h := ao_ifF h c1
        refine ao_iload_n 1 dX12_round_5 rfl rfl ?_
        refine ao_sipush (v := 2000) dX12_round_6 (by decide) ?_
        refine ao_icmp_le 16 dX12_round_9 (by decide) (fun c2 => ?_) (fun c2 => ?_)
        · replace h := ao_ifT h c2
          refine ao_iconst (v := 0) dX12_round_16 (by decide) ?_
          exact ih.2.2.1 r0 x1 (0 : Int32) r0 M ρ _ h
        · replace h := ao_ifF h c2
          exact ih.2.1 r0 x1 r0 M ρ _ h
    · intro r0 x1 q0 M ρ y h
      replace h := ao_ifF h (by decide)
      replace h := ao_ifT h rfl
      refine ao_iconst (v := 1) dX12_round_12 (by decide) ?_
      refine ao_goto 17 dX12_round_13 (by decide) ?_
      exact ih.2.2.1 r0 x1 (1 : Int32) q0 M ρ _ h
    · intro r0 x1 s0 q1 M ρ y h
      replace h := ao_ifF h (by decide)
      replace h := ao_ifF h (by decide)
      replace h := ao_ifT h rfl
      obtain ⟨hk3, h⟩ := ao_some h
      obtain ⟨p4, hp4, h⟩ := ao_bind h
      refine an_callVi q1 12 (q := (RX12, TX12, 83)) [.int s0] (aX12_fails (d - 1) (by omega) q1 s0 M ρ hp4) dX12_round_17 lc_X12_497 li_X12_fails ls_X12_fails rfl hk3 rfl rfl (Nat.le_of_ble_eq_true rfl) (ao_hR (by omega) (by decide)) ?_
      refine ao_if_eq 25 dX12_round_20 (by decide) (fun c5 => ?_) (fun c5 => ?_)
      · replace h := ao_ifT h c5
        refine ao_iconst (v := 0) dX12_round_25 (by decide) ?_
        refine ao_istore_n 2 (lo' := [some (.ref (Γ.2.2.2 + r0)), some (.int x1), some (.int (0 : Int32)), none, none, none, none]) dX12_round_26 rfl (Nat.le_of_ble_eq_true rfl) rfl ?_
        refine ao_iconst (v := 0) dX12_round_27 (by decide) ?_
        refine ao_istore_n 3 (lo' := [some (.ref (Γ.2.2.2 + r0)), some (.int x1), some (.int (0 : Int32)), some (.int (0 : Int32)), none, none, none]) dX12_round_28 rfl (Nat.le_of_ble_eq_true rfl) rfl ?_
        refine ao_iconst (v := 0) dX12_round_29 (by decide) ?_
        refine ao_istore 4 (lo' := [some (.ref (Γ.2.2.2 + r0)), some (.int x1), some (.int (0 : Int32)), some (.int (0 : Int32)), some (.int (0 : Int32)), none, none]) dX12_round_30 (Nat.le_of_ble_eq_true rfl) rfl ?_
        exact ih.2.2.2.1 r0 x1 (0 : Int32) (0 : Int32) (0 : Int32) p4.2 ρ _ h
      · replace h := ao_ifF h c5
        refine ao_iconst (v := 0) dX12_round_23 (by decide) ?_
        cases h
        exact ao_ireturn dX12_round_24 rfl rfl ⟨rfl, rfl⟩
    · intro r0 x1 x2 x3 x4 M ρ y h
      replace h := ao_ifF h (by decide)
      replace h := ao_ifF h (by decide)
      replace h := ao_ifF h (by decide)
      replace h := ao_ifT h rfl
      refine ao_iload_n 2 dX12_round_32 rfl rfl ?_
      refine ao_iload_n 1 dX12_round_33 rfl rfl ?_
      refine ao_icmp_ge 153 dX12_round_34 (by decide) (fun c6 => ?_) (fun c6 => ?_)
      · replace h := ao_ifT h c6
        refine ao_iload_n 2 dX12_round_153 rfl rfl ?_
        cases h
        exact ao_ireturn dX12_round_154 rfl rfl ⟨rfl, rfl⟩
      · replace h := ao_ifF h c6
        refine ao_aload_n 0 dX12_round_37 rfl rfl ?_
        obtain ⟨hk7, h⟩ := ao_some h
        refine an_getI r0 12 65 (q := (RX12, TX12, 83)) dX12_round_38 rfl hk7 (Nat.le_of_ble_eq_true rfl) rfl lf_X12_341 ?_
        refine ao_sipush (v := 20000) dX12_round_41 (by decide) ?_
        refine ao_icmp_ge 153 dX12_round_44 (by decide) (fun c8 => ?_) (fun c8 => ?_)
        · replace h := ao_ifT h c8
          refine ao_iload_n 2 dX12_round_153 rfl rfl ?_
          cases h
          exact ao_ireturn dX12_round_154 rfl rfl ⟨rfl, rfl⟩
        · replace h := ao_ifF h c8
          refine ao_iconst (v := 0) dX12_round_47 (by decide) ?_
          refine ao_istore 5 (lo' := [some (.ref (Γ.2.2.2 + r0)), some (.int x1), some (.int x2), some (.int x3), some (.int x4), some (.int (0 : Int32)), none]) dX12_round_48 (Nat.le_of_ble_eq_true rfl) rfl ?_
          refine ao_iconst (v := 0) dX12_round_50 (by decide) ?_
          refine ao_istore 6 (lo' := [some (.ref (Γ.2.2.2 + r0)), some (.int x1), some (.int x2), some (.int x3), some (.int x4), some (.int (0 : Int32)), some (.int (0 : Int32))]) dX12_round_51 (Nat.le_of_ble_eq_true rfl) rfl ?_
          exact ih.2.2.2.2.1 r0 x1 x2 x3 x4 (0 : Int32) (0 : Int32) M ρ _ h
    · intro r0 x1 x2 x3 x4 x5 x6 M ρ y h
      replace h := ao_ifF h (by decide)
      replace h := ao_ifF h (by decide)
      replace h := ao_ifF h (by decide)
      replace h := ao_ifF h (by decide)
      replace h := ao_ifT h rfl
      refine ao_iload 6 dX12_round_53 rfl ?_
      refine ao_bipush (v := 6) dX12_round_55 (by decide) ?_
      refine ao_icmp_ge 78 dX12_round_57 (by decide) (fun c9 => ?_) (fun c9 => ?_)
      · replace h := ao_ifT h c9
        refine ao_iload 5 dX12_round_78 rfl ?_
        refine ao_if_eq 89 dX12_round_80 (by decide) (fun c10 => ?_) (fun c10 => ?_)
        · replace h := ao_ifT h c10
          refine ao_iload_n 2 dX12_round_89 rfl rfl ?_
          cases h
          exact ao_ireturn dX12_round_90 rfl rfl ⟨rfl, rfl⟩
        · replace h := ao_ifF h c10
          refine ao_iload_n 3 dX12_round_83 rfl rfl ?_
          refine ao_iload 5 dX12_round_84 rfl ?_
          refine ao_icmp_lt 91 dX12_round_86 (by decide) (fun c11 => ?_) (fun c11 => ?_)
          · replace h := ao_ifT h c11
            refine ao_aload_n 0 dX12_round_91 rfl rfl ?_
            refine ao_iload 4 dX12_round_92 rfl ?_
            obtain ⟨hk12, h⟩ := ao_some h
            obtain ⟨p13, hp13, h⟩ := ao_bind h
            refine an_callVi r0 12 (q := (RX12, TX12, 83)) [.int x4] (aX12_isLive (d - 1) (by omega) _ r0 x4 M ρ hp13) dX12_round_94 lc_X12_515 li_X12_isLive ls_X12_isLive rfl hk12 rfl rfl (Nat.le_of_ble_eq_true rfl) (ao_hR (by omega) (by decide)) ?_
            refine ao_if_eq 141 dX12_round_97 (by decide) (fun c14 => ?_) (fun c14 => ?_)
            · replace h := ao_ifT h c14
              exact ih.2.2.2.2.2.2.2.2.2 r0 x1 x2 x3 x4 x5 x6 p13.2 ρ _ h
            · replace h := ao_ifF h c14
              refine ao_aload_n 0 dX12_round_100 rfl rfl ?_
              refine ao_iload 4 dX12_round_101 rfl ?_
              obtain ⟨p15, hp15, h⟩ := ao_bind h
              refine ba_callVi r0 12 (q := (RX12, TX12, 83)) [.int x4] (aX12_takeTurn (d - 1) (by omega) n r0 x4 p13.2 ρ hp15) dX12_round_103 lc_X12_512 li_X12_takeTurn ls_X12_takeTurn rfl hk12 rfl rfl (Nat.le_of_ble_eq_true rfl) (ao_hR (by omega) (by decide)) (ao_leC (me_X12_takeTurn n r0 x4 p13.2 ρ hp15) ((mX12_round n).2.2.2.2.2.2.1 r0 x1 x2 x3 x4 x5 x6 p15.1 p15.2.1 p15.2.2 _ h)) (ao_leS (me_X12_takeTurn n r0 x4 p13.2 ρ hp15) ((mX12_round n).2.2.2.2.2.2.1 r0 x1 x2 x3 x4 x5 x6 p15.1 p15.2.1 p15.2.2 _ h)) ?_
              exact ih.2.2.2.2.2.2.1 r0 x1 x2 x3 x4 x5 x6 p15.1 p15.2.1 p15.2.2 _ h
          · replace h := ao_ifF h c11
            refine ao_iload_n 2 dX12_round_89 rfl rfl ?_
            cases h
            exact ao_ireturn dX12_round_90 rfl rfl ⟨rfl, rfl⟩
      · replace h := ao_ifF h c9
        refine ao_aload_n 0 dX12_round_60 rfl rfl ?_
        refine ao_iload 6 dX12_round_61 rfl ?_
        obtain ⟨hk16, h⟩ := ao_some h
        obtain ⟨p17, hp17, h⟩ := ao_bind h
        refine an_callVi r0 12 (q := (RX12, TX12, 83)) [.int x6] (aX12_isLive (d - 1) (by omega) _ r0 x6 M ρ hp17) dX12_round_63 lc_X12_515 li_X12_isLive ls_X12_isLive rfl hk16 rfl rfl (Nat.le_of_ble_eq_true rfl) (ao_hR (by omega) (by decide)) ?_
        refine ao_if_eq 72 dX12_round_66 (by decide) (fun c18 => ?_) (fun c18 => ?_)
        · replace h := ao_ifT h c18
          exact ih.2.2.2.2.2.1 r0 x1 x2 x3 x4 x5 x6 p17.2 ρ _ h
        · replace h := ao_ifF h c18
          obtain ⟨v19, hv19⟩ : ∃ z : Int32, z = x5 + (1 : Int32) := ⟨_, rfl⟩
          replace h := ao_letD h hv19
          refine ao_iinc 5 (v := v19) (lo' := [some (.ref (Γ.2.2.2 + r0)), some (.int x1), some (.int x2), some (.int x3), some (.int x4), some (.int v19), some (.int x6)]) dX12_round_69 rfl (by rw [hv19]; rfl) (Nat.le_of_ble_eq_true rfl) rfl ?_
          exact ih.2.2.2.2.2.1 r0 x1 x2 x3 x4 v19 x6 p17.2 ρ _ h
    · intro r0 x1 x2 x3 x4 x5 x6 M ρ y h
      replace h := ao_ifF h (by decide)
      replace h := ao_ifF h (by decide)
      replace h := ao_ifF h (by decide)
      replace h := ao_ifF h (by decide)
      replace h := ao_ifF h (by decide)
      replace h := ao_ifT h rfl
      obtain ⟨v20, hv20⟩ : ∃ z : Int32, z = x6 + (1 : Int32) := ⟨_, rfl⟩
      replace h := ao_letD h hv20
      refine ao_iinc 6 (v := v20) (lo' := [some (.ref (Γ.2.2.2 + r0)), some (.int x1), some (.int x2), some (.int x3), some (.int x4), some (.int x5), some (.int v20)]) dX12_round_72 rfl (by rw [hv20]; rfl) (Nat.le_of_ble_eq_true rfl) rfl ?_
      refine ao_goto 53 dX12_round_75 (by decide) ?_
      exact ih.2.2.2.2.1 r0 x1 x2 x3 x4 x5 v20 M ρ _ h
    · intro r0 x1 x2 x3 x4 x5 x6 s0 M ρ y h
      replace h := ao_ifF h (by decide)
      replace h := ao_ifF h (by decide)
      replace h := ao_ifF h (by decide)
      replace h := ao_ifF h (by decide)
      replace h := ao_ifF h (by decide)
      replace h := ao_ifF h (by decide)
      replace h := ao_ifT h rfl
      refine ao_istore 6 (lo' := [some (.ref (Γ.2.2.2 + r0)), some (.int x1), some (.int x2), some (.int x3), some (.int x4), some (.int x5), some (.int s0)]) dX12_round_106 (Nat.le_of_ble_eq_true rfl) rfl ?_
      refine ao_aload_n 0 dX12_round_108 rfl rfl ?_
      refine ao_dup dX12_round_109 rfl ?_
      obtain ⟨hk21, h⟩ := ao_some h
      refine an_getI r0 12 65 (q := (RX12, TX12, 83)) dX12_round_110 rfl hk21 (Nat.le_of_ble_eq_true rfl) rfl lf_X12_341 ?_
      refine ao_iconst (v := 1) dX12_round_113 (by decide) ?_
      refine ao_iadd dX12_round_114 ?_
      refine an_putI r0 12 65 (q := (RX12, TX12, 83)) dX12_round_115 rfl hk21 (Nat.le_of_ble_eq_true rfl) lf_X12_341 rfl rfl rfl rfl (fun M22 hM22 => ?_)
      replace h := ao_letD h hM22
      obtain ⟨v23, hv23⟩ : ∃ z : Int32, z = x2 + (1 : Int32) := ⟨_, rfl⟩
      replace h := ao_letD h hv23
      refine ao_iinc 2 (v := v23) (lo' := [some (.ref (Γ.2.2.2 + r0)), some (.int x1), some (.int v23), some (.int x3), some (.int x4), some (.int x5), some (.int s0)]) dX12_round_118 rfl (by rw [hv23]; rfl) (Nat.le_of_ble_eq_true rfl) rfl ?_
      refine ao_iload 6 dX12_round_121 rfl ?_
      refine ao_iconst (v := 3) dX12_round_123 (by decide) ?_
      refine ao_icmp_eq 133 dX12_round_124 (by decide) (fun c24 => ?_) (fun c24 => ?_)
      · replace h := ao_ifT h c24
        exact ih.2.2.2.2.2.2.2.1 r0 x1 v23 x3 x4 x5 s0 M22 ρ _ h
      · replace h := ao_ifF h c24
        refine ao_iload 6 dX12_round_127 rfl ?_
        refine ao_iconst (v := 4) dX12_round_129 (by decide) ?_
        refine ao_icmp_ne 139 dX12_round_130 (by decide) (fun c25 => ?_) (fun c25 => ?_)
        · replace h := ao_ifF h c25
          refine ao_iconst (v := 0) dX12_round_139 (by decide) ?_
          exact ih.2.2.2.2.2.2.2.2.1 r0 x1 v23 x3 x4 x5 s0 (0 : Int32) M22 ρ _ h
        · replace h := ao_ifT h c25
          exact ih.2.2.2.2.2.2.2.1 r0 x1 v23 x3 x4 x5 s0 M22 ρ _ h
    · intro r0 x1 x2 x3 x4 x5 x6 M ρ y h
      replace h := ao_ifF h (by decide)
      replace h := ao_ifF h (by decide)
      replace h := ao_ifF h (by decide)
      replace h := ao_ifF h (by decide)
      replace h := ao_ifF h (by decide)
      replace h := ao_ifF h (by decide)
      replace h := ao_ifF h (by decide)
      replace h := ao_ifT h rfl
      refine ao_iload_n 3 dX12_round_133 rfl rfl ?_
      refine ao_iconst (v := 1) dX12_round_134 (by decide) ?_
      refine ao_iadd dX12_round_135 ?_
      refine ao_goto 140 dX12_round_136 (by decide) ?_
      exact ih.2.2.2.2.2.2.2.2.1 r0 x1 x2 x3 x4 x5 x6 (x3 + (1 : Int32)) M ρ _ h
    · intro r0 x1 x2 x3 x4 x5 x6 s0 M ρ y h
      replace h := ao_ifF h (by decide)
      replace h := ao_ifF h (by decide)
      replace h := ao_ifF h (by decide)
      replace h := ao_ifF h (by decide)
      replace h := ao_ifF h (by decide)
      replace h := ao_ifF h (by decide)
      replace h := ao_ifF h (by decide)
      replace h := ao_ifF h (by decide)
      replace h := ao_ifT h rfl
      refine ao_istore_n 3 (lo' := [some (.ref (Γ.2.2.2 + r0)), some (.int x1), some (.int x2), some (.int s0), some (.int x4), some (.int x5), some (.int x6)]) dX12_round_140 rfl (Nat.le_of_ble_eq_true rfl) rfl ?_
      exact ih.2.2.2.2.2.2.2.2.2 r0 x1 x2 s0 x4 x5 x6 M ρ _ h
    · intro r0 x1 x2 x3 x4 x5 x6 M ρ y h
      replace h := ao_ifF h (by decide)
      replace h := ao_ifF h (by decide)
      replace h := ao_ifF h (by decide)
      replace h := ao_ifF h (by decide)
      replace h := ao_ifF h (by decide)
      replace h := ao_ifF h (by decide)
      replace h := ao_ifF h (by decide)
      replace h := ao_ifF h (by decide)
      replace h := ao_ifF h (by decide)
      replace h := ao_ifT h rfl
      refine ao_iload 4 dX12_round_141 rfl ?_
      refine ao_iconst (v := 1) dX12_round_143 (by decide) ?_
      refine ao_iadd dX12_round_144 ?_
      refine ao_bipush (v := 6) dX12_round_145 (by decide) ?_
      refine ao_irem dX12_round_147 (by decide) ?_
      refine an_topi (fun v26 hv26 => ?_)
      replace h := ao_letD h hv26
      refine ao_istore 4 (lo' := [some (.ref (Γ.2.2.2 + r0)), some (.int x1), some (.int x2), some (.int x3), some (.int v26), some (.int x5), some (.int x6)]) dX12_round_148 (Nat.le_of_ble_eq_true rfl) rfl ?_
      refine ao_goto 32 dX12_round_150 (by decide) ?_
      refine ao_loForget (lo' := [some (.ref (Γ.2.2.2 + r0)), some (.int x1), some (.int x2), some (.int x3), some (.int v26), none, none]) (ao_fgS (ao_fgS (ao_fgS (ao_fgS (ao_fgS (ao_fgN (ao_fgN ao_fgZ))))))) ?_
      exact ih.2.2.2.1 r0 x1 x2 x3 v26 M ρ _ h
theorem me_X12_round (n : Nat) (r0 : Nat) (x1 : Int32) (M : ao_M) (ρ : ao_H) {y : Int32 × ao_S} (h : gX12_round n r0 x1 M ρ = some y) : ao_le ρ y.2.2 := (mX12_round n).1 r0 x1 M ρ y h
set_option maxRecDepth 100000 in
set_option maxHeartbeats 4000000 in
theorem aX12_round {Γ : ao_C} (d : Nat) (hd : 10 ≤ d) (n : Nat) (r0 : Nat) (x1 : Int32) (M : ao_M) (ρ : ao_H) {y : Int32 × ao_S} (h : gX12_round n r0 x1 M ρ = some y) : ao_A Γ uX12_round d (ao_dc ρ y.2.2) (ao_ds ρ y.2.2) [.ref (Γ.2.2.2 + r0), .int x1] (M, ρ) (ao_QI y) := by
  refine ao_of (by decide) (ao_cat1 (Nat.le_of_ble_eq_true rfl)) (Nat.le_of_ble_eq_true rfl) ?_
  show ao_W Γ uX12_round (ao_rm d (ao_dc ρ y.2.2) (ao_ds ρ y.2.2)) (ao_Q Γ (ao_QI y) (ao_dc ρ y.2.2) (ao_ds ρ y.2.2)) (ao_dc ρ y.2.2) (ao_ds ρ y.2.2) 0 [some (.ref (Γ.2.2.2 + r0)), some (.int x1), none, none, none, none, none] [] (M, ρ)
  exact (wX12_round d hd _ _ n).1 r0 x1 M ρ y h

abbrev uL_feed : ao_Mi := (yL_feed, cL_feed, 8, (some .int), [(0, 16, 19, 13)])
def fL_feed : Nat → Nat → Nat → Int32 → Int32 → Int32 → Int32 → Int32 → Nat → Int32 → Int32 → Nat →  ao_M → ao_H → Option (Int32 × ao_S)
  | 0, _, _, _, _, _, _, _, _, _, _, _, _, _ => none
  | n + 1, pc, r0, x1, x2, x3, x4, x5, r6, s0, s1, q2, M, ρ =>
    if pc = 0 then
      if ρ.2.1 r0 = 20 then
      (gX10_feed n r0 x1 x2 x3 x4 x5 M ρ).bind fun p2 =>
      ao_cs p2.1 (fun wx3 => fL_feed n 14 r0 x1 x2 x3 x4 x5 r6 wx3 (0 : Int32) r6 p2.2.1 p2.2.2) fun E5 =>
        if E5 = "java/lang/IndexOutOfBoundsException" then
          some ((1 : Int32), p2.2.1, p2.2.2)
        else
        none
      else none
    else if pc = 14 then
      if ρ.2.1 q2 = 3 then
      if ¬ (s1 < 0 ∨ ρ.2.2.1 q2 ≤ s1.toNatClampNeg) then
      ao_let (ao_u M q2 s1.toNatClampNeg s0) fun M9 =>
      some ((0 : Int32), M9, ρ)
      else none
      else none
    else none
def gL_feed (n : Nat) (r0 : Nat) (x1 : Int32) (x2 : Int32) (x3 : Int32) (x4 : Int32) (x5 : Int32) (r6 : Nat) (M : ao_M) (ρ : ao_H) : Option (Int32 × ao_S) := fL_feed n 0 r0 x1 x2 x3 x4 x5 r6 0 0 0 M ρ
set_option maxRecDepth 100000 in
set_option maxHeartbeats 4000000 in
theorem mL_feed : ∀ n : Nat, (∀ (r0 : Nat) (x1 : Int32) (x2 : Int32) (x3 : Int32) (x4 : Int32) (x5 : Int32) (r6 : Nat) (M : ao_M) (ρ : ao_H) (y : Int32 × ao_S), fL_feed n 0 r0 x1 x2 x3 x4 x5 r6 0 0 0 M ρ = some y → ao_le ρ y.2.2) ∧ (∀ (r0 : Nat) (x1 : Int32) (x2 : Int32) (x3 : Int32) (x4 : Int32) (x5 : Int32) (r6 : Nat) (s0 : Int32) (s1 : Int32) (q2 : Nat) (M : ao_M) (ρ : ao_H) (y : Int32 × ao_S), fL_feed n 14 r0 x1 x2 x3 x4 x5 r6 s0 s1 q2 M ρ = some y → ao_le ρ y.2.2) := by
  intro n
  induction n with
  | zero => exact ⟨fun _ _ _ _ _ _ _ _ _ _ h => ao_no h, fun _ _ _ _ _ _ _ _ _ _ _ _ _ h => ao_no h⟩
  | succ n ih =>
    refine ⟨?_, ?_⟩
    · intro r0 x1 x2 x3 x4 x5 r6 M ρ y h
      replace h := ao_ifT h rfl
      obtain ⟨-, h⟩ := ao_some h
      obtain ⟨p2, hp2, h⟩ := ao_bind h
      refine ao_le_tr (me_X10_feed n r0 x1 x2 x3 x4 x5 M ρ hp2) ?_
      refine ao_csM h (fun wx3 h => ?_) (fun _ h => ?_)
      · exact ih.2 r0 x1 x2 x3 x4 x5 r6 wx3 (0 : Int32) r6 p2.2.1 p2.2.2 _ h
      · rcases ao_ifC h with h | h
        · cases h
          exact ao_le_rf _
        · exact ao_no h
    · intro r0 x1 x2 x3 x4 x5 r6 s0 s1 q2 M ρ y h
      replace h := ao_ifF h (by decide)
      replace h := ao_ifT h rfl
      obtain ⟨-, h⟩ := ao_some h
      obtain ⟨-, h⟩ := ao_some h
      replace h := ao_letD h rfl
      generalize (ao_u M q2 s1.toNatClampNeg s0) = M9 at h
      cases h
      exact ao_le_rf _
set_option maxRecDepth 100000 in
set_option maxHeartbeats 4000000 in
theorem wL_feed {Γ : ao_C} (d : Nat) (hd : 9 ≤ d) (MC MS : Nat) : ∀ n : Nat, (∀ (r0 : Nat) (x1 : Int32) (x2 : Int32) (x3 : Int32) (x4 : Int32) (x5 : Int32) (r6 : Nat) (M : ao_M) (ρ : ao_H) (y : Int32 × ao_S), fL_feed n 0 r0 x1 x2 x3 x4 x5 r6 0 0 0 M ρ = some y → ao_W Γ uL_feed (ao_rm d MC MS) (ao_Q Γ (ao_QI y) MC MS) (ao_dc ρ y.2.2) (ao_ds ρ y.2.2) 0 [some (.ref (Γ.2.2.2 + r0)), some (.int x1), some (.int x2), some (.int x3), some (.int x4), some (.int x5), some (.ref (Γ.2.2.2 + r6)), none] [] (M, ρ)) ∧ (∀ (r0 : Nat) (x1 : Int32) (x2 : Int32) (x3 : Int32) (x4 : Int32) (x5 : Int32) (r6 : Nat) (s0 : Int32) (s1 : Int32) (q2 : Nat) (M : ao_M) (ρ : ao_H) (y : Int32 × ao_S), fL_feed n 14 r0 x1 x2 x3 x4 x5 r6 s0 s1 q2 M ρ = some y → ao_W Γ uL_feed (ao_rm d MC MS) (ao_Q Γ (ao_QI y) MC MS) (ao_dc ρ y.2.2) (ao_ds ρ y.2.2) 14 [some (.ref (Γ.2.2.2 + r0)), some (.int x1), some (.int x2), some (.int x3), some (.int x4), some (.int x5), some (.ref (Γ.2.2.2 + r6)), none] [.int s0, .int s1, .ref (Γ.2.2.2 + q2)] (M, ρ)) := by
  intro n
  induction n with
  | zero => exact ⟨fun _ _ _ _ _ _ _ _ _ _ h => ao_no h, fun _ _ _ _ _ _ _ _ _ _ _ _ _ h => ao_no h⟩
  | succ n ih =>
    refine ⟨?_, ?_⟩
    · intro r0 x1 x2 x3 x4 x5 r6 M ρ y h
      replace h := ao_ifT h rfl
      refine ao_aload 6 dL_feed_0 rfl ?_
      refine ao_iconst (v := 0) dL_feed_2 (by decide) ?_
      refine ao_aload_n 0 dL_feed_3 rfl rfl ?_
      refine ao_iload_n 1 dL_feed_4 rfl rfl ?_
      refine ao_iload_n 2 dL_feed_5 rfl rfl ?_
      refine ao_iload_n 3 dL_feed_6 rfl rfl ?_
      refine ao_iload 4 dL_feed_7 rfl ?_
      refine ao_iload 5 dL_feed_9 rfl ?_
      obtain ⟨hk1, h⟩ := ao_some h
      obtain ⟨p2, hp2, h⟩ := ao_bind h
      have e9 : ao_le p2.2.2 y.2.2 := by
        refine ao_csM h (fun wx3 h => (mL_feed n).2 r0 x1 x2 x3 x4 x5 r6 wx3 (0 : Int32) r6 p2.2.1 p2.2.2 _ h) (fun _ h => ?_)
        rcases ao_ifC h with h | h
        · cases h
          exact ao_le_rf _
        · exact ao_no h
      refine cx_callVi r0 10 (q := (RX10, TX10, 6)) [.int x1, .int x2, .int x3, .int x4, .int x5] (aX10_feed (d - 1) (by omega) n r0 x1 x2 x3 x4 x5 M ρ hp2) dL_feed_11 lc_L_7 li_X10_feed ls_X10_feed rfl hk1 rfl rfl (Nat.le_of_ble_eq_true rfl) (ao_hR (by omega) (by decide)) (ao_leC (me_X10_feed n r0 x1 x2 x3 x4 x5 M ρ hp2) e9) (ao_leS (me_X10_feed n r0 x1 x2 x3 x4 x5 M ρ hp2) e9) (fun wx3 e4 => ?_) (fun E5 e4 => ?_)
      · replace h := ao_csL h e4
        exact ih.2 r0 x1 x2 x3 x4 x5 r6 wx3 (0 : Int32) r6 p2.2.1 p2.2.2 _ h
      · replace h := ao_csR h e4
        by_cases c6 : E5 = "java/lang/IndexOutOfBoundsException"
        · subst c6
          replace h := ao_ifT h rfl
          refine cx_catch "java/lang/IndexOutOfBoundsException" [] (⟨0, 16, 19, 13⟩ : ExceptionTableEntry) [] rfl (fun z hz => nomatch hz) (by decide) (by decide) lcl_L_13 (by decide +kernel) (fun a9 => ?_)
          refine ao_astore 7 (lo' := [some (.ref (Γ.2.2.2 + r0)), some (.int x1), some (.int x2), some (.int x3), some (.int x4), some (.int x5), some (.ref (Γ.2.2.2 + r6)), some (.ref a9)]) dL_feed_19 (Nat.le_of_ble_eq_true rfl) rfl ?_
          refine ao_iconst (v := 1) dL_feed_21 (by decide) ?_
          cases h
          exact ao_ireturn dL_feed_22 rfl rfl ⟨rfl, rfl⟩
        · replace h := ao_ifF h c6
          exact ao_no h
    · intro r0 x1 x2 x3 x4 x5 r6 s0 s1 q2 M ρ y h
      replace h := ao_ifF h (by decide)
      replace h := ao_ifT h rfl
      refine ao_i2l dL_feed_14 ?_
      obtain ⟨hk7, h⟩ := ao_some h
      obtain ⟨hb8, h⟩ := ao_some h
      refine an_lastore q2 dL_feed_15 hk7 hb8 (fun M9 hM9 => ?_)
      replace h := ao_letD h hM9
      refine ao_goto 23 dL_feed_16 (by decide) ?_
      refine ao_iconst (v := 0) dL_feed_23 (by decide) ?_
      cases h
      exact ao_ireturn dL_feed_24 rfl rfl ⟨rfl, rfl⟩
theorem me_L_feed (n : Nat) (r0 : Nat) (x1 : Int32) (x2 : Int32) (x3 : Int32) (x4 : Int32) (x5 : Int32) (r6 : Nat) (M : ao_M) (ρ : ao_H) {y : Int32 × ao_S} (h : gL_feed n r0 x1 x2 x3 x4 x5 r6 M ρ = some y) : ao_le ρ y.2.2 := (mL_feed n).1 r0 x1 x2 x3 x4 x5 r6 M ρ y h
set_option maxRecDepth 100000 in
set_option maxHeartbeats 4000000 in
theorem aL_feed {Γ : ao_C} (d : Nat) (hd : 9 ≤ d) (n : Nat) (r0 : Nat) (x1 : Int32) (x2 : Int32) (x3 : Int32) (x4 : Int32) (x5 : Int32) (r6 : Nat) (M : ao_M) (ρ : ao_H) {y : Int32 × ao_S} (h : gL_feed n r0 x1 x2 x3 x4 x5 r6 M ρ = some y) : ao_A Γ uL_feed d (ao_dc ρ y.2.2) (ao_ds ρ y.2.2) [.ref (Γ.2.2.2 + r0), .int x1, .int x2, .int x3, .int x4, .int x5, .ref (Γ.2.2.2 + r6)] (M, ρ) (ao_QI y) := by
  refine ao_ofH (by decide) rfl (ao_cat1 (Nat.le_of_ble_eq_true rfl)) (Nat.le_of_ble_eq_true rfl) ?_
  show ao_W Γ uL_feed (ao_rm d (ao_dc ρ y.2.2) (ao_ds ρ y.2.2)) (ao_Q Γ (ao_QI y) (ao_dc ρ y.2.2) (ao_ds ρ y.2.2)) (ao_dc ρ y.2.2) (ao_ds ρ y.2.2) 0 [some (.ref (Γ.2.2.2 + r0)), some (.int x1), some (.int x2), some (.int x3), some (.int x4), some (.int x5), some (.ref (Γ.2.2.2 + r6)), none] [] (M, ρ)
  exact (wL_feed d hd _ _ n).1 r0 x1 x2 x3 x4 x5 r6 M ρ y h

abbrev uL_put : ao_Mi := (yL_put, cL_put, 5, (some .int), [(0, 10, 13, 19), (0, 10, 17, 28)])
def fL_put : Nat → Nat → Nat → Int32 → Int32 → Nat → Int32 → Int32 → Nat →  ao_M → ao_H → Option (Int32 × ao_S)
  | 0, _, _, _, _, _, _, _, _, _, _ => none
  | n + 1, pc, r0, x1, x2, r3, s0, s1, q2, M, ρ =>
    if pc = 0 then
      if ρ.2.1 r0 = 20 then
      (gX10_put n r0 x1 x2 M ρ).bind fun p2 =>
      ao_cs p2.1 (fun wx3 => fL_put n 8 r0 x1 x2 r3 wx3 (0 : Int32) r3 p2.2.1 p2.2.2) fun E5 =>
        if E5 = "java/lang/IllegalArgumentException" then
          some ((1 : Int32), p2.2.1, p2.2.2)
        else
        if E5 = "java/lang/IllegalStateException" then
          some ((2 : Int32), p2.2.1, p2.2.2)
        else
        none
      else none
    else if pc = 8 then
      if ρ.2.1 q2 = 3 then
      if ¬ (s1 < 0 ∨ ρ.2.2.1 q2 ≤ s1.toNatClampNeg) then
      ao_let (ao_u M q2 s1.toNatClampNeg s0) fun M10 =>
      some ((0 : Int32), M10, ρ)
      else none
      else none
    else none
def gL_put (n : Nat) (r0 : Nat) (x1 : Int32) (x2 : Int32) (r3 : Nat) (M : ao_M) (ρ : ao_H) : Option (Int32 × ao_S) := fL_put n 0 r0 x1 x2 r3 0 0 0 M ρ
set_option maxRecDepth 100000 in
set_option maxHeartbeats 4000000 in
theorem mL_put : ∀ n : Nat, (∀ (r0 : Nat) (x1 : Int32) (x2 : Int32) (r3 : Nat) (M : ao_M) (ρ : ao_H) (y : Int32 × ao_S), fL_put n 0 r0 x1 x2 r3 0 0 0 M ρ = some y → ao_le ρ y.2.2) ∧ (∀ (r0 : Nat) (x1 : Int32) (x2 : Int32) (r3 : Nat) (s0 : Int32) (s1 : Int32) (q2 : Nat) (M : ao_M) (ρ : ao_H) (y : Int32 × ao_S), fL_put n 8 r0 x1 x2 r3 s0 s1 q2 M ρ = some y → ao_le ρ y.2.2) := by
  intro n
  induction n with
  | zero => exact ⟨fun _ _ _ _ _ _ _ h => ao_no h, fun _ _ _ _ _ _ _ _ _ _ h => ao_no h⟩
  | succ n ih =>
    refine ⟨?_, ?_⟩
    · intro r0 x1 x2 r3 M ρ y h
      replace h := ao_ifT h rfl
      obtain ⟨-, h⟩ := ao_some h
      obtain ⟨p2, hp2, h⟩ := ao_bind h
      refine ao_le_tr (me_X10_put n r0 x1 x2 M ρ hp2) ?_
      refine ao_csM h (fun wx3 h => ?_) (fun _ h => ?_)
      · exact ih.2 r0 x1 x2 r3 wx3 (0 : Int32) r3 p2.2.1 p2.2.2 _ h
      · rcases ao_ifC h with h | h
        · cases h
          exact ao_le_rf _
        · rcases ao_ifC h with h | h
          · cases h
            exact ao_le_rf _
          · exact ao_no h
    · intro r0 x1 x2 r3 s0 s1 q2 M ρ y h
      replace h := ao_ifF h (by decide)
      replace h := ao_ifT h rfl
      obtain ⟨-, h⟩ := ao_some h
      obtain ⟨-, h⟩ := ao_some h
      replace h := ao_letD h rfl
      generalize (ao_u M q2 s1.toNatClampNeg s0) = M10 at h
      cases h
      exact ao_le_rf _
set_option maxRecDepth 100000 in
set_option maxHeartbeats 4000000 in
theorem wL_put {Γ : ao_C} (d : Nat) (hd : 9 ≤ d) (MC MS : Nat) : ∀ n : Nat, (∀ (r0 : Nat) (x1 : Int32) (x2 : Int32) (r3 : Nat) (M : ao_M) (ρ : ao_H) (y : Int32 × ao_S), fL_put n 0 r0 x1 x2 r3 0 0 0 M ρ = some y → ao_W Γ uL_put (ao_rm d MC MS) (ao_Q Γ (ao_QI y) MC MS) (ao_dc ρ y.2.2) (ao_ds ρ y.2.2) 0 [some (.ref (Γ.2.2.2 + r0)), some (.int x1), some (.int x2), some (.ref (Γ.2.2.2 + r3)), none] [] (M, ρ)) ∧ (∀ (r0 : Nat) (x1 : Int32) (x2 : Int32) (r3 : Nat) (s0 : Int32) (s1 : Int32) (q2 : Nat) (M : ao_M) (ρ : ao_H) (y : Int32 × ao_S), fL_put n 8 r0 x1 x2 r3 s0 s1 q2 M ρ = some y → ao_W Γ uL_put (ao_rm d MC MS) (ao_Q Γ (ao_QI y) MC MS) (ao_dc ρ y.2.2) (ao_ds ρ y.2.2) 8 [some (.ref (Γ.2.2.2 + r0)), some (.int x1), some (.int x2), some (.ref (Γ.2.2.2 + r3)), none] [.int s0, .int s1, .ref (Γ.2.2.2 + q2)] (M, ρ)) := by
  intro n
  induction n with
  | zero => exact ⟨fun _ _ _ _ _ _ _ h => ao_no h, fun _ _ _ _ _ _ _ _ _ _ h => ao_no h⟩
  | succ n ih =>
    refine ⟨?_, ?_⟩
    · intro r0 x1 x2 r3 M ρ y h
      replace h := ao_ifT h rfl
      refine ao_aload_n 3 dL_put_0 rfl rfl ?_
      refine ao_iconst (v := 0) dL_put_1 (by decide) ?_
      refine ao_aload_n 0 dL_put_2 rfl rfl ?_
      refine ao_iload_n 1 dL_put_3 rfl rfl ?_
      refine ao_iload_n 2 dL_put_4 rfl rfl ?_
      obtain ⟨hk1, h⟩ := ao_some h
      obtain ⟨p2, hp2, h⟩ := ao_bind h
      have e9 : ao_le p2.2.2 y.2.2 := by
        refine ao_csM h (fun wx3 h => (mL_put n).2 r0 x1 x2 r3 wx3 (0 : Int32) r3 p2.2.1 p2.2.2 _ h) (fun _ h => ?_)
        rcases ao_ifC h with h | h
        · cases h
          exact ao_le_rf _
        · rcases ao_ifC h with h | h
          · cases h
            exact ao_le_rf _
          · exact ao_no h
      refine cx_callVi r0 10 (q := (RX10, TX10, 6)) [.int x1, .int x2] (aX10_put (d - 1) (by omega) n r0 x1 x2 M ρ hp2) dL_put_5 lc_L_32 li_X10_put ls_X10_put rfl hk1 rfl rfl (Nat.le_of_ble_eq_true rfl) (ao_hR (by omega) (by decide)) (ao_leC (me_X10_put n r0 x1 x2 M ρ hp2) e9) (ao_leS (me_X10_put n r0 x1 x2 M ρ hp2) e9) (fun wx3 e4 => ?_) (fun E5 e4 => ?_)
      · replace h := ao_csL h e4
        exact ih.2 r0 x1 x2 r3 wx3 (0 : Int32) r3 p2.2.1 p2.2.2 _ h
      · replace h := ao_csR h e4
        by_cases c6 : E5 = "java/lang/IllegalArgumentException"
        · subst c6
          replace h := ao_ifT h rfl
          refine cx_catch "java/lang/IllegalArgumentException" [] (⟨0, 10, 13, 19⟩ : ExceptionTableEntry) [(⟨0, 10, 17, 28⟩ : ExceptionTableEntry)] rfl (fun z hz => nomatch hz) (by decide) (by decide) lcl_L_19 (by decide +kernel) (fun a9 => ?_)
          refine ao_astore 4 (lo' := [some (.ref (Γ.2.2.2 + r0)), some (.int x1), some (.int x2), some (.ref (Γ.2.2.2 + r3)), some (.ref a9)]) dL_put_13 (Nat.le_of_ble_eq_true rfl) rfl ?_
          refine ao_iconst (v := 1) dL_put_15 (by decide) ?_
          cases h
          exact ao_ireturn dL_put_16 rfl rfl ⟨rfl, rfl⟩
        · replace h := ao_ifF h c6
          by_cases c7 : E5 = "java/lang/IllegalStateException"
          · subst c7
            replace h := ao_ifT h rfl
            refine cx_catch "java/lang/IllegalStateException" [(⟨0, 10, 13, 19⟩ : ExceptionTableEntry)] (⟨0, 10, 17, 28⟩ : ExceptionTableEntry) [] rfl (by intro z hz; simp only [List.mem_cons, List.mem_nil_iff, or_false] at hz; rcases hz with rfl <;> first | exact Or.inr ⟨by decide, _, lcl_L_19, by decide⟩) (by decide) (by decide) lcl_L_28 (by decide +kernel) (fun a9 => ?_)
            refine ao_astore 4 (lo' := [some (.ref (Γ.2.2.2 + r0)), some (.int x1), some (.int x2), some (.ref (Γ.2.2.2 + r3)), some (.ref a9)]) dL_put_17 (Nat.le_of_ble_eq_true rfl) rfl ?_
            refine ao_iconst (v := 2) dL_put_19 (by decide) ?_
            cases h
            exact ao_ireturn dL_put_20 rfl rfl ⟨rfl, rfl⟩
          · replace h := ao_ifF h c7
            exact ao_no h
    · intro r0 x1 x2 r3 s0 s1 q2 M ρ y h
      replace h := ao_ifF h (by decide)
      replace h := ao_ifT h rfl
      refine ao_i2l dL_put_8 ?_
      obtain ⟨hk8, h⟩ := ao_some h
      obtain ⟨hb9, h⟩ := ao_some h
      refine an_lastore q2 dL_put_9 hk8 hb9 (fun M10 hM10 => ?_)
      replace h := ao_letD h hM10
      refine ao_goto 21 dL_put_10 (by decide) ?_
      refine ao_iconst (v := 0) dL_put_21 (by decide) ?_
      cases h
      exact ao_ireturn dL_put_22 rfl rfl ⟨rfl, rfl⟩
theorem me_L_put (n : Nat) (r0 : Nat) (x1 : Int32) (x2 : Int32) (r3 : Nat) (M : ao_M) (ρ : ao_H) {y : Int32 × ao_S} (h : gL_put n r0 x1 x2 r3 M ρ = some y) : ao_le ρ y.2.2 := (mL_put n).1 r0 x1 x2 r3 M ρ y h
set_option maxRecDepth 100000 in
set_option maxHeartbeats 4000000 in
theorem aL_put {Γ : ao_C} (d : Nat) (hd : 9 ≤ d) (n : Nat) (r0 : Nat) (x1 : Int32) (x2 : Int32) (r3 : Nat) (M : ao_M) (ρ : ao_H) {y : Int32 × ao_S} (h : gL_put n r0 x1 x2 r3 M ρ = some y) : ao_A Γ uL_put d (ao_dc ρ y.2.2) (ao_ds ρ y.2.2) [.ref (Γ.2.2.2 + r0), .int x1, .int x2, .ref (Γ.2.2.2 + r3)] (M, ρ) (ao_QI y) := by
  refine ao_ofH (by decide) rfl (ao_cat1 (Nat.le_of_ble_eq_true rfl)) (Nat.le_of_ble_eq_true rfl) ?_
  show ao_W Γ uL_put (ao_rm d (ao_dc ρ y.2.2) (ao_ds ρ y.2.2)) (ao_Q Γ (ao_QI y) (ao_dc ρ y.2.2) (ao_ds ρ y.2.2)) (ao_dc ρ y.2.2) (ao_ds ρ y.2.2) 0 [some (.ref (Γ.2.2.2 + r0)), some (.int x1), some (.int x2), some (.ref (Γ.2.2.2 + r3)), none] [] (M, ρ)
  exact (wL_put d hd _ _ n).1 r0 x1 x2 r3 M ρ y h

abbrev uL_look : ao_Mi := (yL_look, cL_look, 5, (some .int), [(0, 10, 13, 19)])
def fL_look : Nat → Nat → Nat → Int32 → Int32 → Nat → Int32 → Int32 → Nat →  ao_M → ao_H → Option (Int32 × ao_S)
  | 0, _, _, _, _, _, _, _, _, _, _ => none
  | n + 1, pc, r0, x1, x2, r3, s0, s1, q2, M, ρ =>
    if pc = 0 then
      if ρ.2.1 r0 = 20 then
      (gX10_look n r0 x1 x2 M ρ).bind fun p2 =>
      ao_cs p2.1 (fun wx3 => fL_look n 8 r0 x1 x2 r3 wx3 (0 : Int32) r3 p2.2.1 p2.2.2) fun E5 =>
        if E5 = "java/lang/IllegalArgumentException" then
          some ((1 : Int32), p2.2.1, p2.2.2)
        else
        none
      else none
    else if pc = 8 then
      if ρ.2.1 q2 = 3 then
      if ¬ (s1 < 0 ∨ ρ.2.2.1 q2 ≤ s1.toNatClampNeg) then
      ao_let (ao_u M q2 s1.toNatClampNeg s0) fun M9 =>
      some ((0 : Int32), M9, ρ)
      else none
      else none
    else none
def gL_look (n : Nat) (r0 : Nat) (x1 : Int32) (x2 : Int32) (r3 : Nat) (M : ao_M) (ρ : ao_H) : Option (Int32 × ao_S) := fL_look n 0 r0 x1 x2 r3 0 0 0 M ρ
set_option maxRecDepth 100000 in
set_option maxHeartbeats 4000000 in
theorem mL_look : ∀ n : Nat, (∀ (r0 : Nat) (x1 : Int32) (x2 : Int32) (r3 : Nat) (M : ao_M) (ρ : ao_H) (y : Int32 × ao_S), fL_look n 0 r0 x1 x2 r3 0 0 0 M ρ = some y → ao_le ρ y.2.2) ∧ (∀ (r0 : Nat) (x1 : Int32) (x2 : Int32) (r3 : Nat) (s0 : Int32) (s1 : Int32) (q2 : Nat) (M : ao_M) (ρ : ao_H) (y : Int32 × ao_S), fL_look n 8 r0 x1 x2 r3 s0 s1 q2 M ρ = some y → ao_le ρ y.2.2) := by
  intro n
  induction n with
  | zero => exact ⟨fun _ _ _ _ _ _ _ h => ao_no h, fun _ _ _ _ _ _ _ _ _ _ h => ao_no h⟩
  | succ n ih =>
    refine ⟨?_, ?_⟩
    · intro r0 x1 x2 r3 M ρ y h
      replace h := ao_ifT h rfl
      obtain ⟨-, h⟩ := ao_some h
      obtain ⟨p2, hp2, h⟩ := ao_bind h
      refine ao_le_tr (me_X10_look n r0 x1 x2 M ρ hp2) ?_
      refine ao_csM h (fun wx3 h => ?_) (fun _ h => ?_)
      · exact ih.2 r0 x1 x2 r3 wx3 (0 : Int32) r3 p2.2.1 p2.2.2 _ h
      · rcases ao_ifC h with h | h
        · cases h
          exact ao_le_rf _
        · exact ao_no h
    · intro r0 x1 x2 r3 s0 s1 q2 M ρ y h
      replace h := ao_ifF h (by decide)
      replace h := ao_ifT h rfl
      obtain ⟨-, h⟩ := ao_some h
      obtain ⟨-, h⟩ := ao_some h
      replace h := ao_letD h rfl
      generalize (ao_u M q2 s1.toNatClampNeg s0) = M9 at h
      cases h
      exact ao_le_rf _
set_option maxRecDepth 100000 in
set_option maxHeartbeats 4000000 in
theorem wL_look {Γ : ao_C} (d : Nat) (hd : 9 ≤ d) (MC MS : Nat) : ∀ n : Nat, (∀ (r0 : Nat) (x1 : Int32) (x2 : Int32) (r3 : Nat) (M : ao_M) (ρ : ao_H) (y : Int32 × ao_S), fL_look n 0 r0 x1 x2 r3 0 0 0 M ρ = some y → ao_W Γ uL_look (ao_rm d MC MS) (ao_Q Γ (ao_QI y) MC MS) (ao_dc ρ y.2.2) (ao_ds ρ y.2.2) 0 [some (.ref (Γ.2.2.2 + r0)), some (.int x1), some (.int x2), some (.ref (Γ.2.2.2 + r3)), none] [] (M, ρ)) ∧ (∀ (r0 : Nat) (x1 : Int32) (x2 : Int32) (r3 : Nat) (s0 : Int32) (s1 : Int32) (q2 : Nat) (M : ao_M) (ρ : ao_H) (y : Int32 × ao_S), fL_look n 8 r0 x1 x2 r3 s0 s1 q2 M ρ = some y → ao_W Γ uL_look (ao_rm d MC MS) (ao_Q Γ (ao_QI y) MC MS) (ao_dc ρ y.2.2) (ao_ds ρ y.2.2) 8 [some (.ref (Γ.2.2.2 + r0)), some (.int x1), some (.int x2), some (.ref (Γ.2.2.2 + r3)), none] [.int s0, .int s1, .ref (Γ.2.2.2 + q2)] (M, ρ)) := by
  intro n
  induction n with
  | zero => exact ⟨fun _ _ _ _ _ _ _ h => ao_no h, fun _ _ _ _ _ _ _ _ _ _ h => ao_no h⟩
  | succ n ih =>
    refine ⟨?_, ?_⟩
    · intro r0 x1 x2 r3 M ρ y h
      replace h := ao_ifT h rfl
      refine ao_aload_n 3 dL_look_0 rfl rfl ?_
      refine ao_iconst (v := 0) dL_look_1 (by decide) ?_
      refine ao_aload_n 0 dL_look_2 rfl rfl ?_
      refine ao_iload_n 1 dL_look_3 rfl rfl ?_
      refine ao_iload_n 2 dL_look_4 rfl rfl ?_
      obtain ⟨hk1, h⟩ := ao_some h
      obtain ⟨p2, hp2, h⟩ := ao_bind h
      have e9 : ao_le p2.2.2 y.2.2 := by
        refine ao_csM h (fun wx3 h => (mL_look n).2 r0 x1 x2 r3 wx3 (0 : Int32) r3 p2.2.1 p2.2.2 _ h) (fun _ h => ?_)
        rcases ao_ifC h with h | h
        · cases h
          exact ao_le_rf _
        · exact ao_no h
      refine cx_callVi r0 10 (q := (RX10, TX10, 6)) [.int x1, .int x2] (aX10_look (d - 1) (by omega) n r0 x1 x2 M ρ hp2) dL_look_5 lc_L_55 li_X10_look ls_X10_look rfl hk1 rfl rfl (Nat.le_of_ble_eq_true rfl) (ao_hR (by omega) (by decide)) (ao_leC (me_X10_look n r0 x1 x2 M ρ hp2) e9) (ao_leS (me_X10_look n r0 x1 x2 M ρ hp2) e9) (fun wx3 e4 => ?_) (fun E5 e4 => ?_)
      · replace h := ao_csL h e4
        exact ih.2 r0 x1 x2 r3 wx3 (0 : Int32) r3 p2.2.1 p2.2.2 _ h
      · replace h := ao_csR h e4
        by_cases c6 : E5 = "java/lang/IllegalArgumentException"
        · subst c6
          replace h := ao_ifT h rfl
          refine cx_catch "java/lang/IllegalArgumentException" [] (⟨0, 10, 13, 19⟩ : ExceptionTableEntry) [] rfl (fun z hz => nomatch hz) (by decide) (by decide) lcl_L_19 (by decide +kernel) (fun a9 => ?_)
          refine ao_astore 4 (lo' := [some (.ref (Γ.2.2.2 + r0)), some (.int x1), some (.int x2), some (.ref (Γ.2.2.2 + r3)), some (.ref a9)]) dL_look_13 (Nat.le_of_ble_eq_true rfl) rfl ?_
          refine ao_iconst (v := 1) dL_look_15 (by decide) ?_
          cases h
          exact ao_ireturn dL_look_16 rfl rfl ⟨rfl, rfl⟩
        · replace h := ao_ifF h c6
          exact ao_no h
    · intro r0 x1 x2 r3 s0 s1 q2 M ρ y h
      replace h := ao_ifF h (by decide)
      replace h := ao_ifT h rfl
      refine ao_i2l dL_look_8 ?_
      obtain ⟨hk7, h⟩ := ao_some h
      obtain ⟨hb8, h⟩ := ao_some h
      refine an_lastore q2 dL_look_9 hk7 hb8 (fun M9 hM9 => ?_)
      replace h := ao_letD h hM9
      refine ao_goto 17 dL_look_10 (by decide) ?_
      refine ao_iconst (v := 0) dL_look_17 (by decide) ?_
      cases h
      exact ao_ireturn dL_look_18 rfl rfl ⟨rfl, rfl⟩
theorem me_L_look (n : Nat) (r0 : Nat) (x1 : Int32) (x2 : Int32) (r3 : Nat) (M : ao_M) (ρ : ao_H) {y : Int32 × ao_S} (h : gL_look n r0 x1 x2 r3 M ρ = some y) : ao_le ρ y.2.2 := (mL_look n).1 r0 x1 x2 r3 M ρ y h
set_option maxRecDepth 100000 in
set_option maxHeartbeats 4000000 in
theorem aL_look {Γ : ao_C} (d : Nat) (hd : 9 ≤ d) (n : Nat) (r0 : Nat) (x1 : Int32) (x2 : Int32) (r3 : Nat) (M : ao_M) (ρ : ao_H) {y : Int32 × ao_S} (h : gL_look n r0 x1 x2 r3 M ρ = some y) : ao_A Γ uL_look d (ao_dc ρ y.2.2) (ao_ds ρ y.2.2) [.ref (Γ.2.2.2 + r0), .int x1, .int x2, .ref (Γ.2.2.2 + r3)] (M, ρ) (ao_QI y) := by
  refine ao_ofH (by decide) rfl (ao_cat1 (Nat.le_of_ble_eq_true rfl)) (Nat.le_of_ble_eq_true rfl) ?_
  show ao_W Γ uL_look (ao_rm d (ao_dc ρ y.2.2) (ao_ds ρ y.2.2)) (ao_Q Γ (ao_QI y) (ao_dc ρ y.2.2) (ao_ds ρ y.2.2)) (ao_dc ρ y.2.2) (ao_ds ρ y.2.2) 0 [some (.ref (Γ.2.2.2 + r0)), some (.int x1), some (.int x2), some (.ref (Γ.2.2.2 + r3)), none] [] (M, ρ)
  exact (wL_look d hd _ _ n).1 r0 x1 x2 r3 M ρ y h

abbrev uL_count : ao_Mi := (yL_count, cL_count, 4, (some .int), [(0, 9, 12, 19)])
def fL_count : Nat → Nat → Nat → Int32 → Nat → Int32 → Int32 → Nat →  ao_M → ao_H → Option (Int32 × ao_S)
  | 0, _, _, _, _, _, _, _, _, _ => none
  | n + 1, pc, r0, x1, r2, s0, s1, q2, M, ρ =>
    if pc = 0 then
      if ρ.2.1 r0 = 20 then
      (gX10_count n r0 x1 M ρ).bind fun p2 =>
      ao_cs p2.1 (fun wx3 => fL_count n 7 r0 x1 r2 wx3 (0 : Int32) r2 p2.2.1 p2.2.2) fun E5 =>
        if E5 = "java/lang/IllegalArgumentException" then
          some ((1 : Int32), p2.2.1, p2.2.2)
        else
        none
      else none
    else if pc = 7 then
      if ρ.2.1 q2 = 3 then
      if ¬ (s1 < 0 ∨ ρ.2.2.1 q2 ≤ s1.toNatClampNeg) then
      ao_let (ao_u M q2 s1.toNatClampNeg s0) fun M9 =>
      some ((0 : Int32), M9, ρ)
      else none
      else none
    else none
def gL_count (n : Nat) (r0 : Nat) (x1 : Int32) (r2 : Nat) (M : ao_M) (ρ : ao_H) : Option (Int32 × ao_S) := fL_count n 0 r0 x1 r2 0 0 0 M ρ
set_option maxRecDepth 100000 in
set_option maxHeartbeats 4000000 in
theorem mL_count : ∀ n : Nat, (∀ (r0 : Nat) (x1 : Int32) (r2 : Nat) (M : ao_M) (ρ : ao_H) (y : Int32 × ao_S), fL_count n 0 r0 x1 r2 0 0 0 M ρ = some y → ao_le ρ y.2.2) ∧ (∀ (r0 : Nat) (x1 : Int32) (r2 : Nat) (s0 : Int32) (s1 : Int32) (q2 : Nat) (M : ao_M) (ρ : ao_H) (y : Int32 × ao_S), fL_count n 7 r0 x1 r2 s0 s1 q2 M ρ = some y → ao_le ρ y.2.2) := by
  intro n
  induction n with
  | zero => exact ⟨fun _ _ _ _ _ _ h => ao_no h, fun _ _ _ _ _ _ _ _ _ h => ao_no h⟩
  | succ n ih =>
    refine ⟨?_, ?_⟩
    · intro r0 x1 r2 M ρ y h
      replace h := ao_ifT h rfl
      obtain ⟨-, h⟩ := ao_some h
      obtain ⟨p2, hp2, h⟩ := ao_bind h
      refine ao_le_tr (me_X10_count n r0 x1 M ρ hp2) ?_
      refine ao_csM h (fun wx3 h => ?_) (fun _ h => ?_)
      · exact ih.2 r0 x1 r2 wx3 (0 : Int32) r2 p2.2.1 p2.2.2 _ h
      · rcases ao_ifC h with h | h
        · cases h
          exact ao_le_rf _
        · exact ao_no h
    · intro r0 x1 r2 s0 s1 q2 M ρ y h
      replace h := ao_ifF h (by decide)
      replace h := ao_ifT h rfl
      obtain ⟨-, h⟩ := ao_some h
      obtain ⟨-, h⟩ := ao_some h
      replace h := ao_letD h rfl
      generalize (ao_u M q2 s1.toNatClampNeg s0) = M9 at h
      cases h
      exact ao_le_rf _
set_option maxRecDepth 100000 in
set_option maxHeartbeats 4000000 in
theorem wL_count {Γ : ao_C} (d : Nat) (hd : 9 ≤ d) (MC MS : Nat) : ∀ n : Nat, (∀ (r0 : Nat) (x1 : Int32) (r2 : Nat) (M : ao_M) (ρ : ao_H) (y : Int32 × ao_S), fL_count n 0 r0 x1 r2 0 0 0 M ρ = some y → ao_W Γ uL_count (ao_rm d MC MS) (ao_Q Γ (ao_QI y) MC MS) (ao_dc ρ y.2.2) (ao_ds ρ y.2.2) 0 [some (.ref (Γ.2.2.2 + r0)), some (.int x1), some (.ref (Γ.2.2.2 + r2)), none] [] (M, ρ)) ∧ (∀ (r0 : Nat) (x1 : Int32) (r2 : Nat) (s0 : Int32) (s1 : Int32) (q2 : Nat) (M : ao_M) (ρ : ao_H) (y : Int32 × ao_S), fL_count n 7 r0 x1 r2 s0 s1 q2 M ρ = some y → ao_W Γ uL_count (ao_rm d MC MS) (ao_Q Γ (ao_QI y) MC MS) (ao_dc ρ y.2.2) (ao_ds ρ y.2.2) 7 [some (.ref (Γ.2.2.2 + r0)), some (.int x1), some (.ref (Γ.2.2.2 + r2)), none] [.int s0, .int s1, .ref (Γ.2.2.2 + q2)] (M, ρ)) := by
  intro n
  induction n with
  | zero => exact ⟨fun _ _ _ _ _ _ h => ao_no h, fun _ _ _ _ _ _ _ _ _ h => ao_no h⟩
  | succ n ih =>
    refine ⟨?_, ?_⟩
    · intro r0 x1 r2 M ρ y h
      replace h := ao_ifT h rfl
      refine ao_aload_n 2 dL_count_0 rfl rfl ?_
      refine ao_iconst (v := 0) dL_count_1 (by decide) ?_
      refine ao_aload_n 0 dL_count_2 rfl rfl ?_
      refine ao_iload_n 1 dL_count_3 rfl rfl ?_
      obtain ⟨hk1, h⟩ := ao_some h
      obtain ⟨p2, hp2, h⟩ := ao_bind h
      have e9 : ao_le p2.2.2 y.2.2 := by
        refine ao_csM h (fun wx3 h => (mL_count n).2 r0 x1 r2 wx3 (0 : Int32) r2 p2.2.1 p2.2.2 _ h) (fun _ h => ?_)
        rcases ao_ifC h with h | h
        · cases h
          exact ao_le_rf _
        · exact ao_no h
      refine cx_callVi r0 10 (q := (RX10, TX10, 6)) [.int x1] (aX10_count (d - 1) (by omega) n r0 x1 M ρ hp2) dL_count_4 lc_L_64 li_X10_count ls_X10_count rfl hk1 rfl rfl (Nat.le_of_ble_eq_true rfl) (ao_hR (by omega) (by decide)) (ao_leC (me_X10_count n r0 x1 M ρ hp2) e9) (ao_leS (me_X10_count n r0 x1 M ρ hp2) e9) (fun wx3 e4 => ?_) (fun E5 e4 => ?_)
      · replace h := ao_csL h e4
        exact ih.2 r0 x1 r2 wx3 (0 : Int32) r2 p2.2.1 p2.2.2 _ h
      · replace h := ao_csR h e4
        by_cases c6 : E5 = "java/lang/IllegalArgumentException"
        · subst c6
          replace h := ao_ifT h rfl
          refine cx_catch "java/lang/IllegalArgumentException" [] (⟨0, 9, 12, 19⟩ : ExceptionTableEntry) [] rfl (fun z hz => nomatch hz) (by decide) (by decide) lcl_L_19 (by decide +kernel) (fun a9 => ?_)
          refine ao_astore_n 3 (lo' := [some (.ref (Γ.2.2.2 + r0)), some (.int x1), some (.ref (Γ.2.2.2 + r2)), some (.ref a9)]) dL_count_12 rfl (Nat.le_of_ble_eq_true rfl) rfl ?_
          refine ao_iconst (v := 1) dL_count_13 (by decide) ?_
          cases h
          exact ao_ireturn dL_count_14 rfl rfl ⟨rfl, rfl⟩
        · replace h := ao_ifF h c6
          exact ao_no h
    · intro r0 x1 r2 s0 s1 q2 M ρ y h
      replace h := ao_ifF h (by decide)
      replace h := ao_ifT h rfl
      refine ao_i2l dL_count_7 ?_
      obtain ⟨hk7, h⟩ := ao_some h
      obtain ⟨hb8, h⟩ := ao_some h
      refine an_lastore q2 dL_count_8 hk7 hb8 (fun M9 hM9 => ?_)
      replace h := ao_letD h hM9
      refine ao_goto 15 dL_count_9 (by decide) ?_
      refine ao_iconst (v := 0) dL_count_15 (by decide) ?_
      cases h
      exact ao_ireturn dL_count_16 rfl rfl ⟨rfl, rfl⟩
theorem me_L_count (n : Nat) (r0 : Nat) (x1 : Int32) (r2 : Nat) (M : ao_M) (ρ : ao_H) {y : Int32 × ao_S} (h : gL_count n r0 x1 r2 M ρ = some y) : ao_le ρ y.2.2 := (mL_count n).1 r0 x1 r2 M ρ y h
set_option maxRecDepth 100000 in
set_option maxHeartbeats 4000000 in
theorem aL_count {Γ : ao_C} (d : Nat) (hd : 9 ≤ d) (n : Nat) (r0 : Nat) (x1 : Int32) (r2 : Nat) (M : ao_M) (ρ : ao_H) {y : Int32 × ao_S} (h : gL_count n r0 x1 r2 M ρ = some y) : ao_A Γ uL_count d (ao_dc ρ y.2.2) (ao_ds ρ y.2.2) [.ref (Γ.2.2.2 + r0), .int x1, .ref (Γ.2.2.2 + r2)] (M, ρ) (ao_QI y) := by
  refine ao_ofH (by decide) rfl (ao_cat1 (Nat.le_of_ble_eq_true rfl)) (Nat.le_of_ble_eq_true rfl) ?_
  show ao_W Γ uL_count (ao_rm d (ao_dc ρ y.2.2) (ao_ds ρ y.2.2)) (ao_Q Γ (ao_QI y) (ao_dc ρ y.2.2) (ao_ds ρ y.2.2)) (ao_dc ρ y.2.2) (ao_ds ρ y.2.2) 0 [some (.ref (Γ.2.2.2 + r0)), some (.int x1), some (.ref (Γ.2.2.2 + r2)), none] [] (M, ρ)
  exact (wL_count d hd _ _ n).1 r0 x1 r2 M ρ y h
