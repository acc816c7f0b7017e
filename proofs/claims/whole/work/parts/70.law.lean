abbrev uL_law : ao_Mi := (yL_law, code, 7, ret, [])
set_option maxRecDepth 100000 in
def fL_law (L : Nat) (xs : Nat → Int32) : Nat → Nat → Nat → Nat → Nat → Int32 → Int32 → Int32 → Nat → Int32 → Int32 → Nat →  ao_M → ao_H → Option (Int32 × ao_S)
  | 0, _, _, _, _, _, _, _, _, _, _, _, _, _ => none
  | n + 1, pc, r1, r2, r3, x4, x5, x6, q0, s0, s1, q2, M, ρ =>
    if pc = 0 then
      (ρ.2.2.2.1).bind fun n1 =>
      fL_law L xs n 3 0 0 0 0 0 0 n1 0 0 0 (ao_zr M n1) (ao_nw ρ n1 20 0 6)
    else if pc = 3 then
      (gX10_init n q0 M ρ).bind fun p2 =>
      fL_law L xs n 7 0 0 0 0 0 0 q0 0 0 0 p2.1 p2.2
    else if pc = 7 then
      (ρ.2.2.2.1).bind fun n3 =>
      fL_law L xs n 11 q0 0 0 0 0 0 n3 0 0 0 (ao_zr M n3) (ao_nw ρ n3 22 0 83)
    else if pc = 11 then
      (gX12_init n q0 M ρ).bind fun p4 =>
      fL_law L xs n 15 r1 0 0 0 0 0 q0 0 0 0 p4.1 p4.2
    else if pc = 15 then
      (ρ.2.2.2.1).bind fun n5 =>
      if ¬ (1 : Int32) < 0 ∧ (1 : Int32).toNatClampNeg * 8 ≤ 536870912 then
      fL_law L xs n 19 r1 q0 0 0 0 0 n5 0 0 0 (ao_zr M n5) (ao_nw ρ n5 3 (1 : Int32).toNatClampNeg (1 : Int32).toNatClampNeg)
      else none
    else if pc = 19 then
      fL_law L xs n 23 r1 r2 q0 (0 : Int32) 0 0 0 0 0 0 M ρ
    else if pc = 23 then
      if ((nI L) - (6 : Int32)) < x4 then
        some ((1 : Int32), M, ρ)
      else
        if ¬ (x4 < 0 ∨ L ≤ x4.toNatClampNeg) then
        ao_let ((xs x4.toNatClampNeg) &&& (31 : Int32)) fun v9 =>
        if v9 = (0 : Int32) then
          if ¬ ((x4 + (1 : Int32)) < 0 ∨ L ≤ (x4 + (1 : Int32)).toNatClampNeg) then
          if ¬ ((x4 + (2 : Int32)) < 0 ∨ L ≤ (x4 + (2 : Int32)).toNatClampNeg) then
          if ¬ ((x4 + (3 : Int32)) < 0 ∨ L ≤ (x4 + (3 : Int32)).toNatClampNeg) then
          if ¬ ((x4 + (4 : Int32)) < 0 ∨ L ≤ (x4 + (4 : Int32)).toNatClampNeg) then
          if ¬ ((x4 + (5 : Int32)) < 0 ∨ L ≤ (x4 + (5 : Int32)).toNatClampNeg) then
          (gL_feed n r1 (xs (x4 + (1 : Int32)).toNatClampNeg) (xs (x4 + (2 : Int32)).toNatClampNeg) (xs (x4 + (3 : Int32)).toNatClampNeg) (xs (x4 + (4 : Int32)).toNatClampNeg) (xs (x4 + (5 : Int32)).toNatClampNeg) r3 M ρ).bind fun p16 =>
          fL_law L xs n 159 r1 r2 r3 x4 0 0 0 p16.1 0 0 p16.2.1 p16.2.2
          else none
          else none
          else none
          else none
          else none
        else
          if v9 = (1 : Int32) then
            if ¬ ((x4 + (1 : Int32)) < 0 ∨ L ≤ (x4 + (1 : Int32)).toNatClampNeg) then
            (gL_end n r1 (xs (x4 + (1 : Int32)).toNatClampNeg) r3 M ρ).bind fun p19 =>
            fL_law L xs n 239 r1 r2 r3 x4 0 0 0 p19.1 0 0 p19.2.1 p19.2.2
            else none
          else
            if v9 = (2 : Int32) then
              if ¬ ((x4 + (1 : Int32)) < 0 ∨ L ≤ (x4 + (1 : Int32)).toNatClampNeg) then
              (gL_start n r1 (xs (x4 + (1 : Int32)).toNatClampNeg) M ρ).bind fun p22 =>
              fL_law L xs n 294 r1 r2 r3 x4 0 0 0 p22.1 0 0 p22.2.1 p22.2.2
              else none
            else
              if v9 = (3 : Int32) then
                if ¬ ((x4 + (1 : Int32)) < 0 ∨ L ≤ (x4 + (1 : Int32)).toNatClampNeg) then
                (gL_program n r1 (xs (x4 + (1 : Int32)).toNatClampNeg) r3 M ρ).bind fun p25 =>
                fL_law L xs n 331 r1 r2 r3 x4 0 0 0 p25.1 0 0 p25.2.1 p25.2.2
                else none
              else
                if v9 = (4 : Int32) then
                  if ρ.2.1 r1 = 20 then
                  (gX10_place r1 M ρ).bind fun p28 =>
                  if ρ.2.1 r2 = 22 then
                  (gX12_place r2 p28.2 ρ).bind fun p30 =>
                  if p28.1 = p30.1 then
                    fL_law L xs n 1106 r1 r2 r3 x4 0 0 0 0 0 0 p30.2 ρ
                  else
                    some ((0 : Int32), p30.2, ρ)
                  else none
                  else none
                else
                  if v9 = (5 : Int32) then
                    if ¬ ((x4 + (1 : Int32)) < 0 ∨ L ≤ (x4 + (1 : Int32)).toNatClampNeg) then
                    if ¬ ((x4 + (2 : Int32)) < 0 ∨ L ≤ (x4 + (2 : Int32)).toNatClampNeg) then
                    (gL_put n r1 (xs (x4 + (1 : Int32)).toNatClampNeg) (xs (x4 + (2 : Int32)).toNatClampNeg) r3 M ρ).bind fun p35 =>
                    fL_law L xs n 406 r1 r2 r3 x4 0 0 0 p35.1 0 0 p35.2.1 p35.2.2
                    else none
                    else none
                  else
                    if v9 = (6 : Int32) then
                      if ¬ ((x4 + (1 : Int32)) < 0 ∨ L ≤ (x4 + (1 : Int32)).toNatClampNeg) then
                      (gL_turn n r1 (xs (x4 + (1 : Int32)).toNatClampNeg) r3 M ρ).bind fun p38 =>
                      fL_law L xs n 468 r1 r2 r3 x4 0 0 0 p38.1 0 0 p38.2.1 p38.2.2
                      else none
                    else
                      if v9 = (7 : Int32) then
                        if ¬ ((x4 + (1 : Int32)) < 0 ∨ L ≤ (x4 + (1 : Int32)).toNatClampNeg) then
                        (gL_round n r1 (xs (x4 + (1 : Int32)).toNatClampNeg) r3 M ρ).bind fun p41 =>
                        fL_law L xs n 524 r1 r2 r3 x4 0 0 0 p41.1 0 0 p41.2.1 p41.2.2
                        else none
                      else
                        if v9 = (8 : Int32) then
                          if ¬ ((x4 + (1 : Int32)) < 0 ∨ L ≤ (x4 + (1 : Int32)).toNatClampNeg) then
                          (gL_has n r1 (xs (x4 + (1 : Int32)).toNatClampNeg) r3 M ρ).bind fun p44 =>
                          fL_law L xs n 580 r1 r2 r3 x4 0 0 0 p44.1 0 0 p44.2.1 p44.2.2
                          else none
                        else
                          if v9 = (9 : Int32) then
                            if ¬ ((x4 + (1 : Int32)) < 0 ∨ L ≤ (x4 + (1 : Int32)).toNatClampNeg) then
                            if ¬ ((x4 + (2 : Int32)) < 0 ∨ L ≤ (x4 + (2 : Int32)).toNatClampNeg) then
                            (gL_had n r1 (xs (x4 + (1 : Int32)).toNatClampNeg) (xs (x4 + (2 : Int32)).toNatClampNeg) r3 M ρ).bind fun p48 =>
                            fL_law L xs n 642 r1 r2 r3 x4 0 0 0 p48.1 0 0 p48.2.1 p48.2.2
                            else none
                            else none
                          else
                            if v9 = (10 : Int32) then
                              if ¬ ((x4 + (1 : Int32)) < 0 ∨ L ≤ (x4 + (1 : Int32)).toNatClampNeg) then
                              if ¬ ((x4 + (2 : Int32)) < 0 ∨ L ≤ (x4 + (2 : Int32)).toNatClampNeg) then
                              (gL_register n r1 (xs (x4 + (1 : Int32)).toNatClampNeg) (xs (x4 + (2 : Int32)).toNatClampNeg) r3 M ρ).bind fun p52 =>
                              fL_law L xs n 710 r1 r2 r3 x4 0 0 0 p52.1 0 0 p52.2.1 p52.2.2
                              else none
                              else none
                            else
                              if v9 = (11 : Int32) then
                                if ¬ ((x4 + (1 : Int32)) < 0 ∨ L ≤ (x4 + (1 : Int32)).toNatClampNeg) then
                                if ¬ ((x4 + (2 : Int32)) < 0 ∨ L ≤ (x4 + (2 : Int32)).toNatClampNeg) then
                                if (xs (x4 + (2 : Int32)).toNatClampNeg) = 0 then
                                  fL_law L xs n 782 r1 r2 r3 x4 0 0 0 (0 : Int32) (xs (x4 + (1 : Int32)).toNatClampNeg) r1 M ρ
                                else
                                  fL_law L xs n 782 r1 r2 r3 x4 0 0 0 (1 : Int32) (xs (x4 + (1 : Int32)).toNatClampNeg) r1 M ρ
                                else none
                                else none
                              else
                                if v9 = (12 : Int32) then
                                  if ¬ ((x4 + (1 : Int32)) < 0 ∨ L ≤ (x4 + (1 : Int32)).toNatClampNeg) then
                                  if ¬ ((x4 + (2 : Int32)) < 0 ∨ L ≤ (x4 + (2 : Int32)).toNatClampNeg) then
                                  (gL_look n r1 (xs (x4 + (1 : Int32)).toNatClampNeg) (xs (x4 + (2 : Int32)).toNatClampNeg) r3 M ρ).bind fun p60 =>
                                  fL_law L xs n 862 r1 r2 r3 x4 0 0 0 p60.1 0 0 p60.2.1 p60.2.2
                                  else none
                                  else none
                                else
                                  if v9 = (13 : Int32) then
                                    if ρ.2.1 r1 = 20 then
                                    (gX10_judge n r1 M ρ).bind fun p63 =>
                                    if ρ.2.1 r2 = 22 then
                                    (gX12_judge n r2 p63.2 ρ).bind fun p65 =>
                                    if p63.1 = p65.1 then
                                      fL_law L xs n 1106 r1 r2 r3 x4 0 0 0 0 0 0 p65.2 ρ
                                    else
                                      some ((0 : Int32), p65.2, ρ)
                                    else none
                                    else none
                                  else
                                    if v9 = (14 : Int32) then
                                      if ¬ ((x4 + (1 : Int32)) < 0 ∨ L ≤ (x4 + (1 : Int32)).toNatClampNeg) then
                                      (gL_order n r1 (xs (x4 + (1 : Int32)).toNatClampNeg) r3 M ρ).bind fun p69 =>
                                      fL_law L xs n 937 r1 r2 r3 x4 0 0 0 p69.1 0 0 p69.2.1 p69.2.2
                                      else none
                                    else
                                      if v9 = (15 : Int32) then
                                        if ¬ ((x4 + (1 : Int32)) < 0 ∨ L ≤ (x4 + (1 : Int32)).toNatClampNeg) then
                                        if ¬ ((x4 + (2 : Int32)) < 0 ∨ L ≤ (x4 + (2 : Int32)).toNatClampNeg) then
                                        (gL_record n r1 (xs (x4 + (1 : Int32)).toNatClampNeg) (xs (x4 + (2 : Int32)).toNatClampNeg) r3 M ρ).bind fun p73 =>
                                        fL_law L xs n 999 r1 r2 r3 x4 0 0 0 p73.1 0 0 p73.2.1 p73.2.2
                                        else none
                                        else none
                                      else
                                        if v9 = (16 : Int32) then
                                          if ¬ ((x4 + (1 : Int32)) < 0 ∨ L ≤ (x4 + (1 : Int32)).toNatClampNeg) then
                                          (gL_count n r1 (xs (x4 + (1 : Int32)).toNatClampNeg) r3 M ρ).bind fun p76 =>
                                          fL_law L xs n 1061 r1 r2 r3 x4 0 0 0 p76.1 0 0 p76.2.1 p76.2.2
                                          else none
                                        else
                                          fL_law L xs n 1106 r1 r2 r3 x4 0 0 0 0 0 0 M ρ
        else none
    else if pc = 159 then
      if ¬ ((x4 + (1 : Int32)) < 0 ∨ L ≤ (x4 + (1 : Int32)).toNatClampNeg) then
      if ¬ ((x4 + (2 : Int32)) < 0 ∨ L ≤ (x4 + (2 : Int32)).toNatClampNeg) then
      if ¬ ((x4 + (3 : Int32)) < 0 ∨ L ≤ (x4 + (3 : Int32)).toNatClampNeg) then
      if ¬ ((x4 + (4 : Int32)) < 0 ∨ L ≤ (x4 + (4 : Int32)).toNatClampNeg) then
      if ¬ ((x4 + (5 : Int32)) < 0 ∨ L ≤ (x4 + (5 : Int32)).toNatClampNeg) then
      if ρ.2.1 r2 = 22 then
      (gX12_feed n r2 (xs (x4 + (1 : Int32)).toNatClampNeg) (xs (x4 + (2 : Int32)).toNatClampNeg) (xs (x4 + (3 : Int32)).toNatClampNeg) (xs (x4 + (4 : Int32)).toNatClampNeg) (xs (x4 + (5 : Int32)).toNatClampNeg) M ρ).bind fun p83 =>
      ao_let p83.1 fun v84 =>
      (gX12_thrown r2 p83.2 ρ).bind fun p85 =>
      if p85.1 = s0 then
        if s0 = 0 then
          if ρ.2.1 r3 = 3 then
          if ¬ ((0 : Int32) < 0 ∨ ρ.2.2.1 r3 ≤ (0 : Int32).toNatClampNeg) then
          if (lg_cmp (p85.2 r3 (0 : Int32).toNatClampNeg).toInt64 v84.toInt64) = 0 then
            fL_law L xs n 225 r1 r2 r3 x4 s0 v84 0 0 0 0 p85.2 ρ
          else
            some ((0 : Int32), p85.2, ρ)
          else none
          else none
        else
          fL_law L xs n 225 r1 r2 r3 x4 s0 v84 0 0 0 0 p85.2 ρ
      else
        some ((0 : Int32), p85.2, ρ)
      else none
      else none
      else none
      else none
      else none
      else none
    else if pc = 225 then
      fL_law L xs n 1106 r1 r2 r3 x4 0 0 0 0 0 0 M ρ
    else if pc = 239 then
      if ¬ ((x4 + (1 : Int32)) < 0 ∨ L ≤ (x4 + (1 : Int32)).toNatClampNeg) then
      if ρ.2.1 r2 = 22 then
      (gX12_end n r2 (xs (x4 + (1 : Int32)).toNatClampNeg) M ρ).bind fun p93 =>
      ao_let p93.1 fun v94 =>
      (gX12_thrown r2 p93.2 ρ).bind fun p95 =>
      if p95.1 = s0 then
        if s0 = 0 then
          if ρ.2.1 r3 = 3 then
          if ¬ ((0 : Int32) < 0 ∨ ρ.2.2.1 r3 ≤ (0 : Int32).toNatClampNeg) then
          if (lg_cmp (p95.2 r3 (0 : Int32).toNatClampNeg).toInt64 v94.toInt64) = 0 then
            fL_law L xs n 281 r1 r2 r3 x4 s0 v94 0 0 0 0 p95.2 ρ
          else
            some ((0 : Int32), p95.2, ρ)
          else none
          else none
        else
          fL_law L xs n 281 r1 r2 r3 x4 s0 v94 0 0 0 0 p95.2 ρ
      else
        some ((0 : Int32), p95.2, ρ)
      else none
      else none
    else if pc = 281 then
      fL_law L xs n 1106 r1 r2 r3 x4 0 0 0 0 0 0 M ρ
    else if pc = 294 then
      if ¬ ((x4 + (1 : Int32)) < 0 ∨ L ≤ (x4 + (1 : Int32)).toNatClampNeg) then
      if ρ.2.1 r2 = 22 then
      (gX12_start n r2 (xs (x4 + (1 : Int32)).toNatClampNeg) M ρ).bind fun p103 =>
      (gX12_thrown r2 p103 ρ).bind fun p104 =>
      if p104.1 = s0 then
        fL_law L xs n 1106 r1 r2 r3 x4 0 0 0 0 0 0 p104.2 ρ
      else
        some ((0 : Int32), p104.2, ρ)
      else none
      else none
    else if pc = 331 then
      if ¬ ((x4 + (1 : Int32)) < 0 ∨ L ≤ (x4 + (1 : Int32)).toNatClampNeg) then
      if ρ.2.1 r2 = 22 then
      (gX12_program n r2 (xs (x4 + (1 : Int32)).toNatClampNeg) M ρ).bind fun p108 =>
      fL_law L xs n 343 r1 r2 r3 x4 s0 0 0 p108.1 0 0 p108.2.1 p108.2.2
      else none
      else none
    else if pc = 343 then
      if ρ.2.1 r2 = 22 then
      (gX12_thrown r2 M ρ).bind fun p110 =>
      if p110.1 = x5 then
        if x5 = 0 then
          if ρ.2.1 r3 = 3 then
          if ¬ ((0 : Int32) < 0 ∨ ρ.2.2.1 r3 ≤ (0 : Int32).toNatClampNeg) then
          if (lg_cmp (p110.2 r3 (0 : Int32).toNatClampNeg).toInt64 s0.toInt64) = 0 then
            fL_law L xs n 373 r1 r2 r3 x4 x5 s0 0 0 0 0 p110.2 ρ
          else
            some ((0 : Int32), p110.2, ρ)
          else none
          else none
        else
          fL_law L xs n 373 r1 r2 r3 x4 x5 s0 0 0 0 0 p110.2 ρ
      else
        some ((0 : Int32), p110.2, ρ)
      else none
    else if pc = 373 then
      fL_law L xs n 1106 r1 r2 r3 x4 0 0 0 0 0 0 M ρ
    else if pc = 406 then
      if ¬ ((x4 + (1 : Int32)) < 0 ∨ L ≤ (x4 + (1 : Int32)).toNatClampNeg) then
      if ¬ ((x4 + (2 : Int32)) < 0 ∨ L ≤ (x4 + (2 : Int32)).toNatClampNeg) then
      if ρ.2.1 r2 = 22 then
      (gX12_put n r2 (xs (x4 + (1 : Int32)).toNatClampNeg) (xs (x4 + (2 : Int32)).toNatClampNeg) M ρ).bind fun p119 =>
      fL_law L xs n 424 r1 r2 r3 x4 s0 0 0 p119.1 0 0 p119.2.1 p119.2.2
      else none
      else none
      else none
    else if pc = 424 then
      if ρ.2.1 r2 = 22 then
      (gX12_thrown r2 M ρ).bind fun p121 =>
      if p121.1 = x5 then
        if x5 = 0 then
          if ρ.2.1 r3 = 3 then
          if ¬ ((0 : Int32) < 0 ∨ ρ.2.2.1 r3 ≤ (0 : Int32).toNatClampNeg) then
          if (lg_cmp (p121.2 r3 (0 : Int32).toNatClampNeg).toInt64 s0.toInt64) = 0 then
            fL_law L xs n 454 r1 r2 r3 x4 x5 s0 0 0 0 0 p121.2 ρ
          else
            some ((0 : Int32), p121.2, ρ)
          else none
          else none
        else
          fL_law L xs n 454 r1 r2 r3 x4 x5 s0 0 0 0 0 p121.2 ρ
      else
        some ((0 : Int32), p121.2, ρ)
      else none
    else if pc = 454 then
      fL_law L xs n 1106 r1 r2 r3 x4 0 0 0 0 0 0 M ρ
    else if pc = 468 then
      if ¬ ((x4 + (1 : Int32)) < 0 ∨ L ≤ (x4 + (1 : Int32)).toNatClampNeg) then
      if ρ.2.1 r2 = 22 then
      (gX12_turn n r2 (xs (x4 + (1 : Int32)).toNatClampNeg) M ρ).bind fun p129 =>
      fL_law L xs n 480 r1 r2 r3 x4 s0 0 0 p129.1 0 0 p129.2.1 p129.2.2
      else none
      else none
    else if pc = 480 then
      if ρ.2.1 r2 = 22 then
      (gX12_thrown r2 M ρ).bind fun p131 =>
      if p131.1 = x5 then
        if x5 = 0 then
          if ρ.2.1 r3 = 3 then
          if ¬ ((0 : Int32) < 0 ∨ ρ.2.2.1 r3 ≤ (0 : Int32).toNatClampNeg) then
          if (lg_cmp (p131.2 r3 (0 : Int32).toNatClampNeg).toInt64 s0.toInt64) = 0 then
            fL_law L xs n 510 r1 r2 r3 x4 x5 s0 0 0 0 0 p131.2 ρ
          else
            some ((0 : Int32), p131.2, ρ)
          else none
          else none
        else
          fL_law L xs n 510 r1 r2 r3 x4 x5 s0 0 0 0 0 p131.2 ρ
      else
        some ((0 : Int32), p131.2, ρ)
      else none
    else if pc = 510 then
      fL_law L xs n 1106 r1 r2 r3 x4 0 0 0 0 0 0 M ρ
    else if pc = 524 then
      if ¬ ((x4 + (1 : Int32)) < 0 ∨ L ≤ (x4 + (1 : Int32)).toNatClampNeg) then
      if ρ.2.1 r2 = 22 then
      (gX12_round n r2 (xs (x4 + (1 : Int32)).toNatClampNeg) M ρ).bind fun p139 =>
      fL_law L xs n 536 r1 r2 r3 x4 s0 0 0 p139.1 0 0 p139.2.1 p139.2.2
      else none
      else none
    else if pc = 536 then
      if ρ.2.1 r2 = 22 then
      (gX12_thrown r2 M ρ).bind fun p141 =>
      if p141.1 = x5 then
        if x5 = 0 then
          if ρ.2.1 r3 = 3 then
          if ¬ ((0 : Int32) < 0 ∨ ρ.2.2.1 r3 ≤ (0 : Int32).toNatClampNeg) then
          if (lg_cmp (p141.2 r3 (0 : Int32).toNatClampNeg).toInt64 s0.toInt64) = 0 then
            fL_law L xs n 566 r1 r2 r3 x4 x5 s0 0 0 0 0 p141.2 ρ
          else
            some ((0 : Int32), p141.2, ρ)
          else none
          else none
        else
          fL_law L xs n 566 r1 r2 r3 x4 x5 s0 0 0 0 0 p141.2 ρ
      else
        some ((0 : Int32), p141.2, ρ)
      else none
    else if pc = 566 then
      fL_law L xs n 1106 r1 r2 r3 x4 0 0 0 0 0 0 M ρ
    else if pc = 580 then
      if ¬ ((x4 + (1 : Int32)) < 0 ∨ L ≤ (x4 + (1 : Int32)).toNatClampNeg) then
      if ρ.2.1 r2 = 22 then
      (gX12_has n r2 (xs (x4 + (1 : Int32)).toNatClampNeg) M ρ).bind fun p149 =>
      ao_let p149.1 fun v150 =>
      (gX12_thrown r2 p149.2 ρ).bind fun p151 =>
      if p151.1 = s0 then
        if s0 = 0 then
          if ρ.2.1 r3 = 3 then
          if ¬ ((0 : Int32) < 0 ∨ ρ.2.2.1 r3 ≤ (0 : Int32).toNatClampNeg) then
          if (lg_cmp (p151.2 r3 (0 : Int32).toNatClampNeg).toInt64 v150.toInt64) = 0 then
            fL_law L xs n 622 r1 r2 r3 x4 s0 v150 0 0 0 0 p151.2 ρ
          else
            some ((0 : Int32), p151.2, ρ)
          else none
          else none
        else
          fL_law L xs n 622 r1 r2 r3 x4 s0 v150 0 0 0 0 p151.2 ρ
      else
        some ((0 : Int32), p151.2, ρ)
      else none
      else none
    else if pc = 622 then
      fL_law L xs n 1106 r1 r2 r3 x4 0 0 0 0 0 0 M ρ
    else if pc = 642 then
      if ¬ ((x4 + (1 : Int32)) < 0 ∨ L ≤ (x4 + (1 : Int32)).toNatClampNeg) then
      if ¬ ((x4 + (2 : Int32)) < 0 ∨ L ≤ (x4 + (2 : Int32)).toNatClampNeg) then
      if ρ.2.1 r2 = 22 then
      (gX12_had n r2 (xs (x4 + (1 : Int32)).toNatClampNeg) (xs (x4 + (2 : Int32)).toNatClampNeg) M ρ).bind fun p160 =>
      ao_let p160.1 fun v161 =>
      (gX12_thrown r2 p160.2 ρ).bind fun p162 =>
      if p162.1 = s0 then
        if s0 = 0 then
          if ρ.2.1 r3 = 3 then
          if ¬ ((0 : Int32) < 0 ∨ ρ.2.2.1 r3 ≤ (0 : Int32).toNatClampNeg) then
          if (lg_cmp (p162.2 r3 (0 : Int32).toNatClampNeg).toInt64 v161.toInt64) = 0 then
            fL_law L xs n 690 r1 r2 r3 x4 s0 v161 0 0 0 0 p162.2 ρ
          else
            some ((0 : Int32), p162.2, ρ)
          else none
          else none
        else
          fL_law L xs n 690 r1 r2 r3 x4 s0 v161 0 0 0 0 p162.2 ρ
      else
        some ((0 : Int32), p162.2, ρ)
      else none
      else none
      else none
    else if pc = 690 then
      fL_law L xs n 1106 r1 r2 r3 x4 0 0 0 0 0 0 M ρ
    else if pc = 710 then
      if ¬ ((x4 + (1 : Int32)) < 0 ∨ L ≤ (x4 + (1 : Int32)).toNatClampNeg) then
      if ¬ ((x4 + (2 : Int32)) < 0 ∨ L ≤ (x4 + (2 : Int32)).toNatClampNeg) then
      if ρ.2.1 r2 = 22 then
      (gX12_register n r2 (xs (x4 + (1 : Int32)).toNatClampNeg) (xs (x4 + (2 : Int32)).toNatClampNeg) M ρ).bind fun p171 =>
      ao_let p171.1 fun v172 =>
      (gX12_thrown r2 p171.2 ρ).bind fun p173 =>
      if p173.1 = s0 then
        if s0 = 0 then
          if ρ.2.1 r3 = 3 then
          if ¬ ((0 : Int32) < 0 ∨ ρ.2.2.1 r3 ≤ (0 : Int32).toNatClampNeg) then
          if (lg_cmp (p173.2 r3 (0 : Int32).toNatClampNeg).toInt64 v172.toInt64) = 0 then
            fL_law L xs n 758 r1 r2 r3 x4 s0 v172 0 0 0 0 p173.2 ρ
          else
            some ((0 : Int32), p173.2, ρ)
          else none
          else none
        else
          fL_law L xs n 758 r1 r2 r3 x4 s0 v172 0 0 0 0 p173.2 ρ
      else
        some ((0 : Int32), p173.2, ρ)
      else none
      else none
      else none
    else if pc = 758 then
      fL_law L xs n 1106 r1 r2 r3 x4 0 0 0 0 0 0 M ρ
    else if pc = 782 then
      (gL_said n q2 s1 s0 r3 M ρ).bind fun p179 =>
      fL_law L xs n 786 r1 r2 r3 x4 0 0 0 p179.1 0 0 p179.2.1 p179.2.2
    else if pc = 786 then
      if ¬ ((x4 + (1 : Int32)) < 0 ∨ L ≤ (x4 + (1 : Int32)).toNatClampNeg) then
      if ¬ ((x4 + (2 : Int32)) < 0 ∨ L ≤ (x4 + (2 : Int32)).toNatClampNeg) then
      if (xs (x4 + (2 : Int32)).toNatClampNeg) = 0 then
        fL_law L xs n 809 r1 r2 r3 x4 s0 0 0 (0 : Int32) (xs (x4 + (1 : Int32)).toNatClampNeg) r2 M ρ
      else
        fL_law L xs n 809 r1 r2 r3 x4 s0 0 0 (1 : Int32) (xs (x4 + (1 : Int32)).toNatClampNeg) r2 M ρ
      else none
      else none
    else if pc = 809 then
      if ρ.2.1 q2 = 22 then
      (gX12_said n q2 s1 s0 M ρ).bind fun p184 =>
      ao_let p184.1 fun v185 =>
      if ρ.2.1 r2 = 22 then
      (gX12_thrown r2 p184.2 ρ).bind fun p187 =>
      if p187.1 = x5 then
        if x5 = 0 then
          if ρ.2.1 r3 = 3 then
          if ¬ ((0 : Int32) < 0 ∨ ρ.2.2.1 r3 ≤ (0 : Int32).toNatClampNeg) then
          if (lg_cmp (p187.2 r3 (0 : Int32).toNatClampNeg).toInt64 v185.toInt64) = 0 then
            fL_law L xs n 842 r1 r2 r3 x4 x5 v185 0 0 0 0 p187.2 ρ
          else
            some ((0 : Int32), p187.2, ρ)
          else none
          else none
        else
          fL_law L xs n 842 r1 r2 r3 x4 x5 v185 0 0 0 0 p187.2 ρ
      else
        some ((0 : Int32), p187.2, ρ)
      else none
      else none
    else if pc = 842 then
      fL_law L xs n 1106 r1 r2 r3 x4 0 0 0 0 0 0 M ρ
    else if pc = 862 then
      if ¬ ((x4 + (1 : Int32)) < 0 ∨ L ≤ (x4 + (1 : Int32)).toNatClampNeg) then
      if ¬ ((x4 + (2 : Int32)) < 0 ∨ L ≤ (x4 + (2 : Int32)).toNatClampNeg) then
      if ρ.2.1 r2 = 22 then
      (gX12_look n r2 (xs (x4 + (1 : Int32)).toNatClampNeg) (xs (x4 + (2 : Int32)).toNatClampNeg) M ρ).bind fun p196 =>
      ao_let p196.1 fun v197 =>
      (gX12_thrown r2 p196.2 ρ).bind fun p198 =>
      if p198.1 = s0 then
        if s0 = 0 then
          if ρ.2.1 r3 = 3 then
          if ¬ ((0 : Int32) < 0 ∨ ρ.2.2.1 r3 ≤ (0 : Int32).toNatClampNeg) then
          if (lg_cmp (p198.2 r3 (0 : Int32).toNatClampNeg).toInt64 v197.toInt64) = 0 then
            fL_law L xs n 910 r1 r2 r3 x4 s0 v197 0 0 0 0 p198.2 ρ
          else
            some ((0 : Int32), p198.2, ρ)
          else none
          else none
        else
          fL_law L xs n 910 r1 r2 r3 x4 s0 v197 0 0 0 0 p198.2 ρ
      else
        some ((0 : Int32), p198.2, ρ)
      else none
      else none
      else none
    else if pc = 910 then
      fL_law L xs n 1106 r1 r2 r3 x4 0 0 0 0 0 0 M ρ
    else if pc = 937 then
      if ¬ ((x4 + (1 : Int32)) < 0 ∨ L ≤ (x4 + (1 : Int32)).toNatClampNeg) then
      if ρ.2.1 r2 = 22 then
      (gX12_order n r2 (xs (x4 + (1 : Int32)).toNatClampNeg) M ρ).bind fun p206 =>
      ao_let p206.1 fun v207 =>
      (gX12_thrown r2 p206.2 ρ).bind fun p208 =>
      if p208.1 = s0 then
        if s0 = 0 then
          if ρ.2.1 r3 = 3 then
          if ¬ ((0 : Int32) < 0 ∨ ρ.2.2.1 r3 ≤ (0 : Int32).toNatClampNeg) then
          if (lg_cmp (p208.2 r3 (0 : Int32).toNatClampNeg).toInt64 v207.toInt64) = 0 then
            fL_law L xs n 979 r1 r2 r3 x4 s0 v207 0 0 0 0 p208.2 ρ
          else
            some ((0 : Int32), p208.2, ρ)
          else none
          else none
        else
          fL_law L xs n 979 r1 r2 r3 x4 s0 v207 0 0 0 0 p208.2 ρ
      else
        some ((0 : Int32), p208.2, ρ)
      else none
      else none
    else if pc = 979 then
      fL_law L xs n 1106 r1 r2 r3 x4 0 0 0 0 0 0 M ρ
    else if pc = 999 then
      if ¬ ((x4 + (1 : Int32)) < 0 ∨ L ≤ (x4 + (1 : Int32)).toNatClampNeg) then
      if ¬ ((x4 + (2 : Int32)) < 0 ∨ L ≤ (x4 + (2 : Int32)).toNatClampNeg) then
      if ρ.2.1 r2 = 22 then
      (gX12_record n r2 (xs (x4 + (1 : Int32)).toNatClampNeg) (xs (x4 + (2 : Int32)).toNatClampNeg) M ρ).bind fun p217 =>
      ao_let p217.1 fun v218 =>
      (gX12_thrown r2 p217.2 ρ).bind fun p219 =>
      if p219.1 = s0 then
        if s0 = 0 then
          if ρ.2.1 r3 = 3 then
          if ¬ ((0 : Int32) < 0 ∨ ρ.2.2.1 r3 ≤ (0 : Int32).toNatClampNeg) then
          if (lg_cmp (p219.2 r3 (0 : Int32).toNatClampNeg).toInt64 v218.toInt64) = 0 then
            fL_law L xs n 1047 r1 r2 r3 x4 s0 v218 0 0 0 0 p219.2 ρ
          else
            some ((0 : Int32), p219.2, ρ)
          else none
          else none
        else
          fL_law L xs n 1047 r1 r2 r3 x4 s0 v218 0 0 0 0 p219.2 ρ
      else
        some ((0 : Int32), p219.2, ρ)
      else none
      else none
      else none
    else if pc = 1047 then
      fL_law L xs n 1106 r1 r2 r3 x4 0 0 0 0 0 0 M ρ
    else if pc = 1061 then
      if ¬ ((x4 + (1 : Int32)) < 0 ∨ L ≤ (x4 + (1 : Int32)).toNatClampNeg) then
      if ρ.2.1 r2 = 22 then
      (gX12_count n r2 (xs (x4 + (1 : Int32)).toNatClampNeg) M ρ).bind fun p227 =>
      ao_let p227.1 fun v228 =>
      (gX12_thrown r2 p227.2 ρ).bind fun p229 =>
      if p229.1 = s0 then
        if s0 = 0 then
          if ρ.2.1 r3 = 3 then
          if ¬ ((0 : Int32) < 0 ∨ ρ.2.2.1 r3 ≤ (0 : Int32).toNatClampNeg) then
          if (lg_cmp (p229.2 r3 (0 : Int32).toNatClampNeg).toInt64 v228.toInt64) = 0 then
            fL_law L xs n 1103 r1 r2 r3 x4 s0 v228 0 0 0 0 p229.2 ρ
          else
            some ((0 : Int32), p229.2, ρ)
          else none
          else none
        else
          fL_law L xs n 1103 r1 r2 r3 x4 s0 v228 0 0 0 0 p229.2 ρ
      else
        some ((0 : Int32), p229.2, ρ)
      else none
      else none
    else if pc = 1103 then
      fL_law L xs n 1106 r1 r2 r3 x4 0 0 0 0 0 0 M ρ
    else if pc = 1106 then
      ao_let (x4 + (6 : Int32)) fun v235 =>
      fL_law L xs n 23 r1 r2 r3 v235 0 0 0 0 0 0 M ρ
    else none
def gL_law (L : Nat) (xs : Nat → Int32) (n : Nat)  (M : ao_M) (ρ : ao_H) : Option (Int32 × ao_S) := fL_law L xs n 0 0 0 0 0 0 0 0 0 0 0 M ρ
set_option maxRecDepth 100000 in
set_option maxHeartbeats 4000000 in
theorem mL_law {L : Nat} {xs : Nat → Int32} : ∀ n : Nat, (∀ (M : ao_M) (ρ : ao_H) (y : Int32 × ao_S), fL_law L xs n 0 0 0 0 0 0 0 0 0 0 0 M ρ = some y → ao_le ρ y.2.2) ∧ (∀ (q0 : Nat) (M : ao_M) (ρ : ao_H) (y : Int32 × ao_S), fL_law L xs n 3 0 0 0 0 0 0 q0 0 0 0 M ρ = some y → ao_le ρ y.2.2) ∧ (∀ (q0 : Nat) (M : ao_M) (ρ : ao_H) (y : Int32 × ao_S), fL_law L xs n 7 0 0 0 0 0 0 q0 0 0 0 M ρ = some y → ao_le ρ y.2.2) ∧ (∀ (r1 : Nat) (q0 : Nat) (M : ao_M) (ρ : ao_H) (y : Int32 × ao_S), fL_law L xs n 11 r1 0 0 0 0 0 q0 0 0 0 M ρ = some y → ao_le ρ y.2.2) ∧ (∀ (r1 : Nat) (q0 : Nat) (M : ao_M) (ρ : ao_H) (y : Int32 × ao_S), fL_law L xs n 15 r1 0 0 0 0 0 q0 0 0 0 M ρ = some y → ao_le ρ y.2.2) ∧ (∀ (r1 : Nat) (r2 : Nat) (q0 : Nat) (M : ao_M) (ρ : ao_H) (y : Int32 × ao_S), fL_law L xs n 19 r1 r2 0 0 0 0 q0 0 0 0 M ρ = some y → ao_le ρ y.2.2) ∧ (∀ (r1 : Nat) (r2 : Nat) (r3 : Nat) (x4 : Int32) (M : ao_M) (ρ : ao_H) (y : Int32 × ao_S), fL_law L xs n 23 r1 r2 r3 x4 0 0 0 0 0 0 M ρ = some y → ao_le ρ y.2.2) ∧ (∀ (r1 : Nat) (r2 : Nat) (r3 : Nat) (x4 : Int32) (s0 : Int32) (M : ao_M) (ρ : ao_H) (y : Int32 × ao_S), fL_law L xs n 159 r1 r2 r3 x4 0 0 0 s0 0 0 M ρ = some y → ao_le ρ y.2.2) ∧ (∀ (r1 : Nat) (r2 : Nat) (r3 : Nat) (x4 : Int32) (x5 : Int32) (x6 : Int32) (M : ao_M) (ρ : ao_H) (y : Int32 × ao_S), fL_law L xs n 225 r1 r2 r3 x4 x5 x6 0 0 0 0 M ρ = some y → ao_le ρ y.2.2) ∧ (∀ (r1 : Nat) (r2 : Nat) (r3 : Nat) (x4 : Int32) (s0 : Int32) (M : ao_M) (ρ : ao_H) (y : Int32 × ao_S), fL_law L xs n 239 r1 r2 r3 x4 0 0 0 s0 0 0 M ρ = some y → ao_le ρ y.2.2) ∧ (∀ (r1 : Nat) (r2 : Nat) (r3 : Nat) (x4 : Int32) (x5 : Int32) (x6 : Int32) (M : ao_M) (ρ : ao_H) (y : Int32 × ao_S), fL_law L xs n 281 r1 r2 r3 x4 x5 x6 0 0 0 0 M ρ = some y → ao_le ρ y.2.2) ∧ (∀ (r1 : Nat) (r2 : Nat) (r3 : Nat) (x4 : Int32) (s0 : Int32) (M : ao_M) (ρ : ao_H) (y : Int32 × ao_S), fL_law L xs n 294 r1 r2 r3 x4 0 0 0 s0 0 0 M ρ = some y → ao_le ρ y.2.2) ∧ (∀ (r1 : Nat) (r2 : Nat) (r3 : Nat) (x4 : Int32) (s0 : Int32) (M : ao_M) (ρ : ao_H) (y : Int32 × ao_S), fL_law L xs n 331 r1 r2 r3 x4 0 0 0 s0 0 0 M ρ = some y → ao_le ρ y.2.2) ∧ (∀ (r1 : Nat) (r2 : Nat) (r3 : Nat) (x4 : Int32) (x5 : Int32) (s0 : Int32) (M : ao_M) (ρ : ao_H) (y : Int32 × ao_S), fL_law L xs n 343 r1 r2 r3 x4 x5 0 0 s0 0 0 M ρ = some y → ao_le ρ y.2.2) ∧ (∀ (r1 : Nat) (r2 : Nat) (r3 : Nat) (x4 : Int32) (x5 : Int32) (x6 : Int32) (M : ao_M) (ρ : ao_H) (y : Int32 × ao_S), fL_law L xs n 373 r1 r2 r3 x4 x5 x6 0 0 0 0 M ρ = some y → ao_le ρ y.2.2) ∧ (∀ (r1 : Nat) (r2 : Nat) (r3 : Nat) (x4 : Int32) (s0 : Int32) (M : ao_M) (ρ : ao_H) (y : Int32 × ao_S), fL_law L xs n 406 r1 r2 r3 x4 0 0 0 s0 0 0 M ρ = some y → ao_le ρ y.2.2) ∧ (∀ (r1 : Nat) (r2 : Nat) (r3 : Nat) (x4 : Int32) (x5 : Int32) (s0 : Int32) (M : ao_M) (ρ : ao_H) (y : Int32 × ao_S), fL_law L xs n 424 r1 r2 r3 x4 x5 0 0 s0 0 0 M ρ = some y → ao_le ρ y.2.2) ∧ (∀ (r1 : Nat) (r2 : Nat) (r3 : Nat) (x4 : Int32) (x5 : Int32) (x6 : Int32) (M : ao_M) (ρ : ao_H) (y : Int32 × ao_S), fL_law L xs n 454 r1 r2 r3 x4 x5 x6 0 0 0 0 M ρ = some y → ao_le ρ y.2.2) ∧ (∀ (r1 : Nat) (r2 : Nat) (r3 : Nat) (x4 : Int32) (s0 : Int32) (M : ao_M) (ρ : ao_H) (y : Int32 × ao_S), fL_law L xs n 468 r1 r2 r3 x4 0 0 0 s0 0 0 M ρ = some y → ao_le ρ y.2.2) ∧ (∀ (r1 : Nat) (r2 : Nat) (r3 : Nat) (x4 : Int32) (x5 : Int32) (s0 : Int32) (M : ao_M) (ρ : ao_H) (y : Int32 × ao_S), fL_law L xs n 480 r1 r2 r3 x4 x5 0 0 s0 0 0 M ρ = some y → ao_le ρ y.2.2) ∧ (∀ (r1 : Nat) (r2 : Nat) (r3 : Nat) (x4 : Int32) (x5 : Int32) (x6 : Int32) (M : ao_M) (ρ : ao_H) (y : Int32 × ao_S), fL_law L xs n 510 r1 r2 r3 x4 x5 x6 0 0 0 0 M ρ = some y → ao_le ρ y.2.2) ∧ (∀ (r1 : Nat) (r2 : Nat) (r3 : Nat) (x4 : Int32) (s0 : Int32) (M : ao_M) (ρ : ao_H) (y : Int32 × ao_S), fL_law L xs n 524 r1 r2 r3 x4 0 0 0 s0 0 0 M ρ = some y → ao_le ρ y.2.2) ∧ (∀ (r1 : Nat) (r2 : Nat) (r3 : Nat) (x4 : Int32) (x5 : Int32) (s0 : Int32) (M : ao_M) (ρ : ao_H) (y : Int32 × ao_S), fL_law L xs n 536 r1 r2 r3 x4 x5 0 0 s0 0 0 M ρ = some y → ao_le ρ y.2.2) ∧ (∀ (r1 : Nat) (r2 : Nat) (r3 : Nat) (x4 : Int32) (x5 : Int32) (x6 : Int32) (M : ao_M) (ρ : ao_H) (y : Int32 × ao_S), fL_law L xs n 566 r1 r2 r3 x4 x5 x6 0 0 0 0 M ρ = some y → ao_le ρ y.2.2) ∧ (∀ (r1 : Nat) (r2 : Nat) (r3 : Nat) (x4 : Int32) (s0 : Int32) (M : ao_M) (ρ : ao_H) (y : Int32 × ao_S), fL_law L xs n 580 r1 r2 r3 x4 0 0 0 s0 0 0 M ρ = some y → ao_le ρ y.2.2) ∧ (∀ (r1 : Nat) (r2 : Nat) (r3 : Nat) (x4 : Int32) (x5 : Int32) (x6 : Int32) (M : ao_M) (ρ : ao_H) (y : Int32 × ao_S), fL_law L xs n 622 r1 r2 r3 x4 x5 x6 0 0 0 0 M ρ = some y → ao_le ρ y.2.2) ∧ (∀ (r1 : Nat) (r2 : Nat) (r3 : Nat) (x4 : Int32) (s0 : Int32) (M : ao_M) (ρ : ao_H) (y : Int32 × ao_S), fL_law L xs n 642 r1 r2 r3 x4 0 0 0 s0 0 0 M ρ = some y → ao_le ρ y.2.2) ∧ (∀ (r1 : Nat) (r2 : Nat) (r3 : Nat) (x4 : Int32) (x5 : Int32) (x6 : Int32) (M : ao_M) (ρ : ao_H) (y : Int32 × ao_S), fL_law L xs n 690 r1 r2 r3 x4 x5 x6 0 0 0 0 M ρ = some y → ao_le ρ y.2.2) ∧ (∀ (r1 : Nat) (r2 : Nat) (r3 : Nat) (x4 : Int32) (s0 : Int32) (M : ao_M) (ρ : ao_H) (y : Int32 × ao_S), fL_law L xs n 710 r1 r2 r3 x4 0 0 0 s0 0 0 M ρ = some y → ao_le ρ y.2.2) ∧ (∀ (r1 : Nat) (r2 : Nat) (r3 : Nat) (x4 : Int32) (x5 : Int32) (x6 : Int32) (M : ao_M) (ρ : ao_H) (y : Int32 × ao_S), fL_law L xs n 758 r1 r2 r3 x4 x5 x6 0 0 0 0 M ρ = some y → ao_le ρ y.2.2) ∧ (∀ (r1 : Nat) (r2 : Nat) (r3 : Nat) (x4 : Int32) (s0 : Int32) (s1 : Int32) (q2 : Nat) (M : ao_M) (ρ : ao_H) (y : Int32 × ao_S), fL_law L xs n 782 r1 r2 r3 x4 0 0 0 s0 s1 q2 M ρ = some y → ao_le ρ y.2.2) ∧ (∀ (r1 : Nat) (r2 : Nat) (r3 : Nat) (x4 : Int32) (s0 : Int32) (M : ao_M) (ρ : ao_H) (y : Int32 × ao_S), fL_law L xs n 786 r1 r2 r3 x4 0 0 0 s0 0 0 M ρ = some y → ao_le ρ y.2.2) ∧ (∀ (r1 : Nat) (r2 : Nat) (r3 : Nat) (x4 : Int32) (x5 : Int32) (s0 : Int32) (s1 : Int32) (q2 : Nat) (M : ao_M) (ρ : ao_H) (y : Int32 × ao_S), fL_law L xs n 809 r1 r2 r3 x4 x5 0 0 s0 s1 q2 M ρ = some y → ao_le ρ y.2.2) ∧ (∀ (r1 : Nat) (r2 : Nat) (r3 : Nat) (x4 : Int32) (x5 : Int32) (x6 : Int32) (M : ao_M) (ρ : ao_H) (y : Int32 × ao_S), fL_law L xs n 842 r1 r2 r3 x4 x5 x6 0 0 0 0 M ρ = some y → ao_le ρ y.2.2) ∧ (∀ (r1 : Nat) (r2 : Nat) (r3 : Nat) (x4 : Int32) (s0 : Int32) (M : ao_M) (ρ : ao_H) (y : Int32 × ao_S), fL_law L xs n 862 r1 r2 r3 x4 0 0 0 s0 0 0 M ρ = some y → ao_le ρ y.2.2) ∧ (∀ (r1 : Nat) (r2 : Nat) (r3 : Nat) (x4 : Int32) (x5 : Int32) (x6 : Int32) (M : ao_M) (ρ : ao_H) (y : Int32 × ao_S), fL_law L xs n 910 r1 r2 r3 x4 x5 x6 0 0 0 0 M ρ = some y → ao_le ρ y.2.2) ∧ (∀ (r1 : Nat) (r2 : Nat) (r3 : Nat) (x4 : Int32) (s0 : Int32) (M : ao_M) (ρ : ao_H) (y : Int32 × ao_S), fL_law L xs n 937 r1 r2 r3 x4 0 0 0 s0 0 0 M ρ = some y → ao_le ρ y.2.2) ∧ (∀ (r1 : Nat) (r2 : Nat) (r3 : Nat) (x4 : Int32) (x5 : Int32) (x6 : Int32) (M : ao_M) (ρ : ao_H) (y : Int32 × ao_S), fL_law L xs n 979 r1 r2 r3 x4 x5 x6 0 0 0 0 M ρ = some y → ao_le ρ y.2.2) ∧ (∀ (r1 : Nat) (r2 : Nat) (r3 : Nat) (x4 : Int32) (s0 : Int32) (M : ao_M) (ρ : ao_H) (y : Int32 × ao_S), fL_law L xs n 999 r1 r2 r3 x4 0 0 0 s0 0 0 M ρ = some y → ao_le ρ y.2.2) ∧ (∀ (r1 : Nat) (r2 : Nat) (r3 : Nat) (x4 : Int32) (x5 : Int32) (x6 : Int32) (M : ao_M) (ρ : ao_H) (y : Int32 × ao_S), fL_law L xs n 1047 r1 r2 r3 x4 x5 x6 0 0 0 0 M ρ = some y → ao_le ρ y.2.2) ∧ (∀ (r1 : Nat) (r2 : Nat) (r3 : Nat) (x4 : Int32) (s0 : Int32) (M : ao_M) (ρ : ao_H) (y : Int32 × ao_S), fL_law L xs n 1061 r1 r2 r3 x4 0 0 0 s0 0 0 M ρ = some y → ao_le ρ y.2.2) ∧ (∀ (r1 : Nat) (r2 : Nat) (r3 : Nat) (x4 : Int32) (x5 : Int32) (x6 : Int32) (M : ao_M) (ρ : ao_H) (y : Int32 × ao_S), fL_law L xs n 1103 r1 r2 r3 x4 x5 x6 0 0 0 0 M ρ = some y → ao_le ρ y.2.2) ∧ (∀ (r1 : Nat) (r2 : Nat) (r3 : Nat) (x4 : Int32) (M : ao_M) (ρ : ao_H) (y : Int32 × ao_S), fL_law L xs n 1106 r1 r2 r3 x4 0 0 0 0 0 0 M ρ = some y → ao_le ρ y.2.2) := by
  intro n
  induction n with
  | zero => exact ⟨fun _ _ _ h => ao_no h, fun _ _ _ _ h => ao_no h, fun _ _ _ _ h => ao_no h, fun _ _ _ _ _ h => ao_no h, fun _ _ _ _ _ h => ao_no h, fun _ _ _ _ _ _ h => ao_no h, fun _ _ _ _ _ _ _ h => ao_no h, fun _ _ _ _ _ _ _ _ h => ao_no h, fun _ _ _ _ _ _ _ _ _ h => ao_no h, fun _ _ _ _ _ _ _ _ h => ao_no h, fun _ _ _ _ _ _ _ _ _ h => ao_no h, fun _ _ _ _ _ _ _ _ h => ao_no h, fun _ _ _ _ _ _ _ _ h => ao_no h, fun _ _ _ _ _ _ _ _ _ h => ao_no h, fun _ _ _ _ _ _ _ _ _ h => ao_no h, fun _ _ _ _ _ _ _ _ h => ao_no h, fun _ _ _ _ _ _ _ _ _ h => ao_no h, fun _ _ _ _ _ _ _ _ _ h => ao_no h, fun _ _ _ _ _ _ _ _ h => ao_no h, fun _ _ _ _ _ _ _ _ _ h => ao_no h, fun _ _ _ _ _ _ _ _ _ h => ao_no h, fun _ _ _ _ _ _ _ _ h => ao_no h, fun _ _ _ _ _ _ _ _ _ h => ao_no h, fun _ _ _ _ _ _ _ _ _ h => ao_no h, fun _ _ _ _ _ _ _ _ h => ao_no h, fun _ _ _ _ _ _ _ _ _ h => ao_no h, fun _ _ _ _ _ _ _ _ h => ao_no h, fun _ _ _ _ _ _ _ _ _ h => ao_no h, fun _ _ _ _ _ _ _ _ h => ao_no h, fun _ _ _ _ _ _ _ _ _ h => ao_no h, fun _ _ _ _ _ _ _ _ _ _ h => ao_no h, fun _ _ _ _ _ _ _ _ h => ao_no h, fun _ _ _ _ _ _ _ _ _ _ _ h => ao_no h, fun _ _ _ _ _ _ _ _ _ h => ao_no h, fun _ _ _ _ _ _ _ _ h => ao_no h, fun _ _ _ _ _ _ _ _ _ h => ao_no h, fun _ _ _ _ _ _ _ _ h => ao_no h, fun _ _ _ _ _ _ _ _ _ h => ao_no h, fun _ _ _ _ _ _ _ _ h => ao_no h, fun _ _ _ _ _ _ _ _ _ h => ao_no h, fun _ _ _ _ _ _ _ _ h => ao_no h, fun _ _ _ _ _ _ _ _ _ h => ao_no h, fun _ _ _ _ _ _ _ h => ao_no h⟩
  | succ n ih =>
    refine ⟨?_, ?_, ?_, ?_, ?_, ?_, ?_, ?_, ?_, ?_, ?_, ?_, ?_, ?_, ?_, ?_, ?_, ?_, ?_, ?_, ?_, ?_, ?_, ?_, ?_, ?_, ?_, ?_, ?_, ?_, ?_, ?_, ?_, ?_, ?_, ?_, ?_, ?_, ?_, ?_, ?_, ?_, ?_⟩
    · intro M ρ y h
      replace h := ao_ifT h rfl
      obtain ⟨n1, hn1, h⟩ := ao_bind h
      exact ao_le_tr (ao_le_nw _ _ _ _ _) (ih.2.1 n1 (ao_zr M n1) (ao_nw ρ n1 20 0 6) _ h)
    · intro q0 M ρ y h
      replace h := ao_ifF h (by decide)
      replace h := ao_ifT h rfl
      obtain ⟨p2, hp2, h⟩ := ao_bind h
      exact ao_le_tr (me_X10_init n q0 M ρ hp2) (ih.2.2.1 q0 p2.1 p2.2 _ h)
    · intro q0 M ρ y h
      replace h := ao_ifF h (by decide)
      replace h := ao_ifF h (by decide)
      replace h := ao_ifT h rfl
      obtain ⟨n3, hn3, h⟩ := ao_bind h
      exact ao_le_tr (ao_le_nw _ _ _ _ _) (ih.2.2.2.1 q0 n3 (ao_zr M n3) (ao_nw ρ n3 22 0 83) _ h)
    · intro r1 q0 M ρ y h
      replace h := ao_ifF h (by decide)
      replace h := ao_ifF h (by decide)
      replace h := ao_ifF h (by decide)
      replace h := ao_ifT h rfl
      obtain ⟨p4, hp4, h⟩ := ao_bind h
      exact ao_le_tr (me_X12_init n q0 M ρ hp4) (ih.2.2.2.2.1 r1 q0 p4.1 p4.2 _ h)
    · intro r1 q0 M ρ y h
      replace h := ao_ifF h (by decide)
      replace h := ao_ifF h (by decide)
      replace h := ao_ifF h (by decide)
      replace h := ao_ifF h (by decide)
      replace h := ao_ifT h rfl
      obtain ⟨n5, hn5, h⟩ := ao_bind h
      obtain ⟨-, h⟩ := ao_some h
      exact ao_le_tr (ao_le_nw _ _ _ _ _) (ih.2.2.2.2.2.1 r1 q0 n5 (ao_zr M n5) (ao_nw ρ n5 3 (1 : Int32).toNatClampNeg (1 : Int32).toNatClampNeg) _ h)
    · intro r1 r2 q0 M ρ y h
      replace h := ao_ifF h (by decide)
      replace h := ao_ifF h (by decide)
      replace h := ao_ifF h (by decide)
      replace h := ao_ifF h (by decide)
      replace h := ao_ifF h (by decide)
      replace h := ao_ifT h rfl
      exact ih.2.2.2.2.2.2.1 r1 r2 q0 (0 : Int32) M ρ _ h
    · intro r1 r2 r3 x4 M ρ y h
      replace h := ao_ifF h (by decide)
      replace h := ao_ifF h (by decide)
      replace h := ao_ifF h (by decide)
      replace h := ao_ifF h (by decide)
      replace h := ao_ifF h (by decide)
      replace h := ao_ifF h (by decide)
      replace h := ao_ifT h rfl
      rcases ao_ifC h with h | h
      · cases h
        exact ao_le_rf _
      · obtain ⟨-, h⟩ := ao_some h
        replace h := ao_letD h rfl
        generalize ((xs x4.toNatClampNeg) &&& (31 : Int32)) = v9 at h
        rcases ao_ifC h with h | h
        · obtain ⟨-, h⟩ := ao_some h
          obtain ⟨-, h⟩ := ao_some h
          obtain ⟨-, h⟩ := ao_some h
          obtain ⟨-, h⟩ := ao_some h
          obtain ⟨-, h⟩ := ao_some h
          obtain ⟨p16, hp16, h⟩ := ao_bind h
          exact ao_le_tr (me_L_feed n r1 (xs (x4 + (1 : Int32)).toNatClampNeg) (xs (x4 + (2 : Int32)).toNatClampNeg) (xs (x4 + (3 : Int32)).toNatClampNeg) (xs (x4 + (4 : Int32)).toNatClampNeg) (xs (x4 + (5 : Int32)).toNatClampNeg) r3 M ρ hp16) (ih.2.2.2.2.2.2.2.1 r1 r2 r3 x4 p16.1 p16.2.1 p16.2.2 _ h)
        · rcases ao_ifC h with h | h
          · obtain ⟨-, h⟩ := ao_some h
            obtain ⟨p19, hp19, h⟩ := ao_bind h
            exact ao_le_tr (me_L_end n r1 (xs (x4 + (1 : Int32)).toNatClampNeg) r3 M ρ hp19) (ih.2.2.2.2.2.2.2.2.2.1 r1 r2 r3 x4 p19.1 p19.2.1 p19.2.2 _ h)
          · rcases ao_ifC h with h | h
            · obtain ⟨-, h⟩ := ao_some h
              obtain ⟨p22, hp22, h⟩ := ao_bind h
              exact ao_le_tr (me_L_start n r1 (xs (x4 + (1 : Int32)).toNatClampNeg) M ρ hp22) (ih.2.2.2.2.2.2.2.2.2.2.2.1 r1 r2 r3 x4 p22.1 p22.2.1 p22.2.2 _ h)
            · rcases ao_ifC h with h | h
              · obtain ⟨-, h⟩ := ao_some h
                obtain ⟨p25, hp25, h⟩ := ao_bind h
                exact ao_le_tr (me_L_program n r1 (xs (x4 + (1 : Int32)).toNatClampNeg) r3 M ρ hp25) (ih.2.2.2.2.2.2.2.2.2.2.2.2.1 r1 r2 r3 x4 p25.1 p25.2.1 p25.2.2 _ h)
              · rcases ao_ifC h with h | h
                · obtain ⟨-, h⟩ := ao_some h
                  obtain ⟨p28, hp28, h⟩ := ao_bind h
                  obtain ⟨-, h⟩ := ao_some h
                  obtain ⟨p30, hp30, h⟩ := ao_bind h
                  rcases ao_ifC h with h | h
                  · exact ih.2.2.2.2.2.2.2.2.2.2.2.2.2.2.2.2.2.2.2.2.2.2.2.2.2.2.2.2.2.2.2.2.2.2.2.2.2.2.2.2.2.2 r1 r2 r3 x4 p30.2 ρ _ h
                  · cases h
                    exact ao_le_rf _
                · rcases ao_ifC h with h | h
                  · obtain ⟨-, h⟩ := ao_some h
                    obtain ⟨-, h⟩ := ao_some h
                    obtain ⟨p35, hp35, h⟩ := ao_bind h
                    exact ao_le_tr (me_L_put n r1 (xs (x4 + (1 : Int32)).toNatClampNeg) (xs (x4 + (2 : Int32)).toNatClampNeg) r3 M ρ hp35) (ih.2.2.2.2.2.2.2.2.2.2.2.2.2.2.2.1 r1 r2 r3 x4 p35.1 p35.2.1 p35.2.2 _ h)
                  · rcases ao_ifC h with h | h
                    · obtain ⟨-, h⟩ := ao_some h
                      obtain ⟨p38, hp38, h⟩ := ao_bind h
                      exact ao_le_tr (me_L_turn n r1 (xs (x4 + (1 : Int32)).toNatClampNeg) r3 M ρ hp38) (ih.2.2.2.2.2.2.2.2.2.2.2.2.2.2.2.2.2.2.1 r1 r2 r3 x4 p38.1 p38.2.1 p38.2.2 _ h)
                    · rcases ao_ifC h with h | h
                      · obtain ⟨-, h⟩ := ao_some h
                        obtain ⟨p41, hp41, h⟩ := ao_bind h
                        exact ao_le_tr (me_L_round n r1 (xs (x4 + (1 : Int32)).toNatClampNeg) r3 M ρ hp41) (ih.2.2.2.2.2.2.2.2.2.2.2.2.2.2.2.2.2.2.2.2.2.1 r1 r2 r3 x4 p41.1 p41.2.1 p41.2.2 _ h)
                      · rcases ao_ifC h with h | h
                        · obtain ⟨-, h⟩ := ao_some h
                          obtain ⟨p44, hp44, h⟩ := ao_bind h
                          exact ao_le_tr (me_L_has n r1 (xs (x4 + (1 : Int32)).toNatClampNeg) r3 M ρ hp44) (ih.2.2.2.2.2.2.2.2.2.2.2.2.2.2.2.2.2.2.2.2.2.2.2.2.1 r1 r2 r3 x4 p44.1 p44.2.1 p44.2.2 _ h)
                        · rcases ao_ifC h with h | h
                          · obtain ⟨-, h⟩ := ao_some h
                            obtain ⟨-, h⟩ := ao_some h
                            obtain ⟨p48, hp48, h⟩ := ao_bind h
                            exact ao_le_tr (me_L_had n r1 (xs (x4 + (1 : Int32)).toNatClampNeg) (xs (x4 + (2 : Int32)).toNatClampNeg) r3 M ρ hp48) (ih.2.2.2.2.2.2.2.2.2.2.2.2.2.2.2.2.2.2.2.2.2.2.2.2.2.2.1 r1 r2 r3 x4 p48.1 p48.2.1 p48.2.2 _ h)
                          · rcases ao_ifC h with h | h
                            · obtain ⟨-, h⟩ := ao_some h
                              obtain ⟨-, h⟩ := ao_some h
                              obtain ⟨p52, hp52, h⟩ := ao_bind h
                              exact ao_le_tr (me_L_register n r1 (xs (x4 + (1 : Int32)).toNatClampNeg) (xs (x4 + (2 : Int32)).toNatClampNeg) r3 M ρ hp52) (ih.2.2.2.2.2.2.2.2.2.2.2.2.2.2.2.2.2.2.2.2.2.2.2.2.2.2.2.2.1 r1 r2 r3 x4 p52.1 p52.2.1 p52.2.2 _ h)
                            · rcases ao_ifC h with h | h
                              · obtain ⟨-, h⟩ := ao_some h
                                obtain ⟨-, h⟩ := ao_some h
                                rcases ao_ifC h with h | h
                                · exact ih.2.2.2.2.2.2.2.2.2.2.2.2.2.2.2.2.2.2.2.2.2.2.2.2.2.2.2.2.2.2.1 r1 r2 r3 x4 (0 : Int32) (xs (x4 + (1 : Int32)).toNatClampNeg) r1 M ρ _ h
                                · exact ih.2.2.2.2.2.2.2.2.2.2.2.2.2.2.2.2.2.2.2.2.2.2.2.2.2.2.2.2.2.2.1 r1 r2 r3 x4 (1 : Int32) (xs (x4 + (1 : Int32)).toNatClampNeg) r1 M ρ _ h
                              · rcases ao_ifC h with h | h
                                · obtain ⟨-, h⟩ := ao_some h
                                  obtain ⟨-, h⟩ := ao_some h
                                  obtain ⟨p60, hp60, h⟩ := ao_bind h
                                  exact ao_le_tr (me_L_look n r1 (xs (x4 + (1 : Int32)).toNatClampNeg) (xs (x4 + (2 : Int32)).toNatClampNeg) r3 M ρ hp60) (ih.2.2.2.2.2.2.2.2.2.2.2.2.2.2.2.2.2.2.2.2.2.2.2.2.2.2.2.2.2.2.2.2.2.2.1 r1 r2 r3 x4 p60.1 p60.2.1 p60.2.2 _ h)
                                · rcases ao_ifC h with h | h
                                  · obtain ⟨-, h⟩ := ao_some h
                                    obtain ⟨p63, hp63, h⟩ := ao_bind h
                                    obtain ⟨-, h⟩ := ao_some h
                                    obtain ⟨p65, hp65, h⟩ := ao_bind h
                                    rcases ao_ifC h with h | h
                                    · exact ih.2.2.2.2.2.2.2.2.2.2.2.2.2.2.2.2.2.2.2.2.2.2.2.2.2.2.2.2.2.2.2.2.2.2.2.2.2.2.2.2.2.2 r1 r2 r3 x4 p65.2 ρ _ h
                                    · cases h
                                      exact ao_le_rf _
                                  · rcases ao_ifC h with h | h
                                    · obtain ⟨-, h⟩ := ao_some h
                                      obtain ⟨p69, hp69, h⟩ := ao_bind h
                                      exact ao_le_tr (me_L_order n r1 (xs (x4 + (1 : Int32)).toNatClampNeg) r3 M ρ hp69) (ih.2.2.2.2.2.2.2.2.2.2.2.2.2.2.2.2.2.2.2.2.2.2.2.2.2.2.2.2.2.2.2.2.2.2.2.2.1 r1 r2 r3 x4 p69.1 p69.2.1 p69.2.2 _ h)
                                    · rcases ao_ifC h with h | h
                                      · obtain ⟨-, h⟩ := ao_some h
                                        obtain ⟨-, h⟩ := ao_some h
                                        obtain ⟨p73, hp73, h⟩ := ao_bind h
                                        exact ao_le_tr (me_L_record n r1 (xs (x4 + (1 : Int32)).toNatClampNeg) (xs (x4 + (2 : Int32)).toNatClampNeg) r3 M ρ hp73) (ih.2.2.2.2.2.2.2.2.2.2.2.2.2.2.2.2.2.2.2.2.2.2.2.2.2.2.2.2.2.2.2.2.2.2.2.2.2.2.1 r1 r2 r3 x4 p73.1 p73.2.1 p73.2.2 _ h)
                                      · rcases ao_ifC h with h | h
                                        · obtain ⟨-, h⟩ := ao_some h
                                          obtain ⟨p76, hp76, h⟩ := ao_bind h
                                          exact ao_le_tr (me_L_count n r1 (xs (x4 + (1 : Int32)).toNatClampNeg) r3 M ρ hp76) (ih.2.2.2.2.2.2.2.2.2.2.2.2.2.2.2.2.2.2.2.2.2.2.2.2.2.2.2.2.2.2.2.2.2.2.2.2.2.2.2.2.1 r1 r2 r3 x4 p76.1 p76.2.1 p76.2.2 _ h)
                                        · exact ih.2.2.2.2.2.2.2.2.2.2.2.2.2.2.2.2.2.2.2.2.2.2.2.2.2.2.2.2.2.2.2.2.2.2.2.2.2.2.2.2.2.2 r1 r2 r3 x4 M ρ _ h
    · intro r1 r2 r3 x4 s0 M ρ y h
      replace h := ao_ifF h (by decide)
      replace h := ao_ifF h (by decide)
      replace h := ao_ifF h (by decide)
      replace h := ao_ifF h (by decide)
      replace h := ao_ifF h (by decide)
      replace h := ao_ifF h (by decide)
      replace h := ao_ifF h (by decide)
      replace h := ao_ifT h rfl
      obtain ⟨-, h⟩ := ao_some h
      obtain ⟨-, h⟩ := ao_some h
      obtain ⟨-, h⟩ := ao_some h
      obtain ⟨-, h⟩ := ao_some h
      obtain ⟨-, h⟩ := ao_some h
      obtain ⟨-, h⟩ := ao_some h
      obtain ⟨p83, hp83, h⟩ := ao_bind h
      replace h := ao_letD h rfl
      generalize p83.1 = v84 at h
      obtain ⟨p85, hp85, h⟩ := ao_bind h
      rcases ao_ifC h with h | h
      · rcases ao_ifC h with h | h
        · obtain ⟨-, h⟩ := ao_some h
          obtain ⟨-, h⟩ := ao_some h
          rcases ao_ifC h with h | h
          · exact ih.2.2.2.2.2.2.2.2.1 r1 r2 r3 x4 s0 v84 p85.2 ρ _ h
          · cases h
            exact ao_le_rf _
        · exact ih.2.2.2.2.2.2.2.2.1 r1 r2 r3 x4 s0 v84 p85.2 ρ _ h
      · cases h
        exact ao_le_rf _
    · intro r1 r2 r3 x4 x5 x6 M ρ y h
      replace h := ao_ifF h (by decide)
      replace h := ao_ifF h (by decide)
      replace h := ao_ifF h (by decide)
      replace h := ao_ifF h (by decide)
      replace h := ao_ifF h (by decide)
      replace h := ao_ifF h (by decide)
      replace h := ao_ifF h (by decide)
      replace h := ao_ifF h (by decide)
      replace h := ao_ifT h rfl
      exact ih.2.2.2.2.2.2.2.2.2.2.2.2.2.2.2.2.2.2.2.2.2.2.2.2.2.2.2.2.2.2.2.2.2.2.2.2.2.2.2.2.2.2 r1 r2 r3 x4 M ρ _ h
    · intro r1 r2 r3 x4 s0 M ρ y h
      replace h := ao_ifF h (by decide)
      replace h := ao_ifF h (by decide)
      replace h := ao_ifF h (by decide)
      replace h := ao_ifF h (by decide)
      replace h := ao_ifF h (by decide)
      replace h := ao_ifF h (by decide)
      replace h := ao_ifF h (by decide)
      replace h := ao_ifF h (by decide)
      replace h := ao_ifF h (by decide)
      replace h := ao_ifT h rfl
      obtain ⟨-, h⟩ := ao_some h
      obtain ⟨-, h⟩ := ao_some h
      obtain ⟨p93, hp93, h⟩ := ao_bind h
      replace h := ao_letD h rfl
      generalize p93.1 = v94 at h
      obtain ⟨p95, hp95, h⟩ := ao_bind h
      rcases ao_ifC h with h | h
      · rcases ao_ifC h with h | h
        · obtain ⟨-, h⟩ := ao_some h
          obtain ⟨-, h⟩ := ao_some h
          rcases ao_ifC h with h | h
          · exact ih.2.2.2.2.2.2.2.2.2.2.1 r1 r2 r3 x4 s0 v94 p95.2 ρ _ h
          · cases h
            exact ao_le_rf _
        · exact ih.2.2.2.2.2.2.2.2.2.2.1 r1 r2 r3 x4 s0 v94 p95.2 ρ _ h
      · cases h
        exact ao_le_rf _
    · intro r1 r2 r3 x4 x5 x6 M ρ y h
      replace h := ao_ifF h (by decide)
      replace h := ao_ifF h (by decide)
      replace h := ao_ifF h (by decide)
      replace h := ao_ifF h (by decide)
      replace h := ao_ifF h (by decide)
      replace h := ao_ifF h (by decide)
      replace h := ao_ifF h (by decide)
      replace h := ao_ifF h (by decide)
      replace h := ao_ifF h (by decide)
      replace h := ao_ifF h (by decide)
      replace h := ao_ifT h rfl
      exact ih.2.2.2.2.2.2.2.2.2.2.2.2.2.2.2.2.2.2.2.2.2.2.2.2.2.2.2.2.2.2.2.2.2.2.2.2.2.2.2.2.2.2 r1 r2 r3 x4 M ρ _ h
    · intro r1 r2 r3 x4 s0 M ρ y h
      replace h := ao_ifF h (by decide)
      replace h := ao_ifF h (by decide)
      replace h := ao_ifF h (by decide)
      replace h := ao_ifF h (by decide)
      replace h := ao_ifF h (by decide)
      replace h := ao_ifF h (by decide)
      replace h := ao_ifF h (by decide)
      replace h := ao_ifF h (by decide)
      replace h := ao_ifF h (by decide)
      replace h := ao_ifF h (by decide)
      replace h := ao_ifF h (by decide)
      replace h := ao_ifT h rfl
      obtain ⟨-, h⟩ := ao_some h
      obtain ⟨-, h⟩ := ao_some h
      obtain ⟨p103, hp103, h⟩ := ao_bind h
      obtain ⟨p104, hp104, h⟩ := ao_bind h
      rcases ao_ifC h with h | h
      · exact ih.2.2.2.2.2.2.2.2.2.2.2.2.2.2.2.2.2.2.2.2.2.2.2.2.2.2.2.2.2.2.2.2.2.2.2.2.2.2.2.2.2.2 r1 r2 r3 x4 p104.2 ρ _ h
      · cases h
        exact ao_le_rf _
    · intro r1 r2 r3 x4 s0 M ρ y h
      replace h := ao_ifF h (by decide)
      replace h := ao_ifF h (by decide)
      replace h := ao_ifF h (by decide)
      replace h := ao_ifF h (by decide)
      replace h := ao_ifF h (by decide)
      replace h := ao_ifF h (by decide)
      replace h := ao_ifF h (by decide)
      replace h := ao_ifF h (by decide)
      replace h := ao_ifF h (by decide)
      replace h := ao_ifF h (by decide)
      replace h := ao_ifF h (by decide)
      replace h := ao_ifF h (by decide)
      replace h := ao_ifT h rfl
      obtain ⟨-, h⟩ := ao_some h
      obtain ⟨-, h⟩ := ao_some h
      obtain ⟨p108, hp108, h⟩ := ao_bind h
      exact ao_le_tr (me_X12_program n r2 (xs (x4 + (1 : Int32)).toNatClampNeg) M ρ hp108) (ih.2.2.2.2.2.2.2.2.2.2.2.2.2.1 r1 r2 r3 x4 s0 p108.1 p108.2.1 p108.2.2 _ h)
    · intro r1 r2 r3 x4 x5 s0 M ρ y h
      replace h := ao_ifF h (by decide)
      replace h := ao_ifF h (by decide)
      replace h := ao_ifF h (by decide)
      replace h := ao_ifF h (by decide)
      replace h := ao_ifF h (by decide)
      replace h := ao_ifF h (by decide)
      replace h := ao_ifF h (by decide)
      replace h := ao_ifF h (by decide)
      replace h := ao_ifF h (by decide)
      replace h := ao_ifF h (by decide)
      replace h := ao_ifF h (by decide)
      replace h := ao_ifF h (by decide)
      replace h := ao_ifF h (by decide)
      replace h := ao_ifT h rfl
      obtain ⟨-, h⟩ := ao_some h
      obtain ⟨p110, hp110, h⟩ := ao_bind h
      rcases ao_ifC h with h | h
      · rcases ao_ifC h with h | h
        · obtain ⟨-, h⟩ := ao_some h
          obtain ⟨-, h⟩ := ao_some h
          rcases ao_ifC h with h | h
          · exact ih.2.2.2.2.2.2.2.2.2.2.2.2.2.2.1 r1 r2 r3 x4 x5 s0 p110.2 ρ _ h
          · cases h
            exact ao_le_rf _
        · exact ih.2.2.2.2.2.2.2.2.2.2.2.2.2.2.1 r1 r2 r3 x4 x5 s0 p110.2 ρ _ h
      · cases h
        exact ao_le_rf _
    · intro r1 r2 r3 x4 x5 x6 M ρ y h
      replace h := ao_ifF h (by decide)
      replace h := ao_ifF h (by decide)
      replace h := ao_ifF h (by decide)
      replace h := ao_ifF h (by decide)
      replace h := ao_ifF h (by decide)
      replace h := ao_ifF h (by decide)
      replace h := ao_ifF h (by decide)
      replace h := ao_ifF h (by decide)
      replace h := ao_ifF h (by decide)
      replace h := ao_ifF h (by decide)
      replace h := ao_ifF h (by decide)
      replace h := ao_ifF h (by decide)
      replace h := ao_ifF h (by decide)
      replace h := ao_ifF h (by decide)
      replace h := ao_ifT h rfl
      exact ih.2.2.2.2.2.2.2.2.2.2.2.2.2.2.2.2.2.2.2.2.2.2.2.2.2.2.2.2.2.2.2.2.2.2.2.2.2.2.2.2.2.2 r1 r2 r3 x4 M ρ _ h
    · intro r1 r2 r3 x4 s0 M ρ y h
      replace h := ao_ifF h (by decide)
      replace h := ao_ifF h (by decide)
      replace h := ao_ifF h (by decide)
      replace h := ao_ifF h (by decide)
      replace h := ao_ifF h (by decide)
      replace h := ao_ifF h (by decide)
      replace h := ao_ifF h (by decide)
      replace h := ao_ifF h (by decide)
      replace h := ao_ifF h (by decide)
      replace h := ao_ifF h (by decide)
      replace h := ao_ifF h (by decide)
      replace h := ao_ifF h (by decide)
      replace h := ao_ifF h (by decide)
      replace h := ao_ifF h (by decide)
      replace h := ao_ifF h (by decide)
      replace h := ao_ifT h rfl
      obtain ⟨-, h⟩ := ao_some h
      obtain ⟨-, h⟩ := ao_some h
      obtain ⟨-, h⟩ := ao_some h
      obtain ⟨p119, hp119, h⟩ := ao_bind h
      exact ao_le_tr (me_X12_put n r2 (xs (x4 + (1 : Int32)).toNatClampNeg) (xs (x4 + (2 : Int32)).toNatClampNeg) M ρ hp119) (ih.2.2.2.2.2.2.2.2.2.2.2.2.2.2.2.2.1 r1 r2 r3 x4 s0 p119.1 p119.2.1 p119.2.2 _ h)
    · intro r1 r2 r3 x4 x5 s0 M ρ y h
      replace h := ao_ifF h (by decide)
      replace h := ao_ifF h (by decide)
      replace h := ao_ifF h (by decide)
      replace h := ao_ifF h (by decide)
      replace h := ao_ifF h (by decide)
      replace h := ao_ifF h (by decide)
      replace h := ao_ifF h (by decide)
      replace h := ao_ifF h (by decide)
      replace h := ao_ifF h (by decide)
      replace h := ao_ifF h (by decide)
      replace h := ao_ifF h (by decide)
      replace h := ao_ifF h (by decide)
      replace h := ao_ifF h (by decide)
      replace h := ao_ifF h (by decide)
      replace h := ao_ifF h (by decide)
      replace h := ao_ifF h (by decide)
      replace h := ao_ifT h rfl
      obtain ⟨-, h⟩ := ao_some h
      obtain ⟨p121, hp121, h⟩ := ao_bind h
      rcases ao_ifC h with h | h
      · rcases ao_ifC h with h | h
        · obtain ⟨-, h⟩ := ao_some h
          obtain ⟨-, h⟩ := ao_some h
          rcases ao_ifC h with h | h
          · exact ih.2.2.2.2.2.2.2.2.2.2.2.2.2.2.2.2.2.1 r1 r2 r3 x4 x5 s0 p121.2 ρ _ h
          · cases h
            exact ao_le_rf _
        · exact ih.2.2.2.2.2.2.2.2.2.2.2.2.2.2.2.2.2.1 r1 r2 r3 x4 x5 s0 p121.2 ρ _ h
      · cases h
        exact ao_le_rf _
    · intro r1 r2 r3 x4 x5 x6 M ρ y h
      replace h := ao_ifF h (by decide)
      replace h := ao_ifF h (by decide)
      replace h := ao_ifF h (by decide)
      replace h := ao_ifF h (by decide)
      replace h := ao_ifF h (by decide)
      replace h := ao_ifF h (by decide)
      replace h := ao_ifF h (by decide)
      replace h := ao_ifF h (by decide)
      replace h := ao_ifF h (by decide)
      replace h := ao_ifF h (by decide)
      replace h := ao_ifF h (by decide)
      replace h := ao_ifF h (by decide)
      replace h := ao_ifF h (by decide)
      replace h := ao_ifF h (by decide)
      replace h := ao_ifF h (by decide)
      replace h := ao_ifF h (by decide)
      replace h := ao_ifF h (by decide)
      replace h := ao_ifT h rfl
      exact ih.2.2.2.2.2.2.2.2.2.2.2.2.2.2.2.2.2.2.2.2.2.2.2.2.2.2.2.2.2.2.2.2.2.2.2.2.2.2.2.2.2.2 r1 r2 r3 x4 M ρ _ h
    · intro r1 r2 r3 x4 s0 M ρ y h
      replace h := ao_ifF h (by decide)
      replace h := ao_ifF h (by decide)
      replace h := ao_ifF h (by decide)
      replace h := ao_ifF h (by decide)
      replace h := ao_ifF h (by decide)
      replace h := ao_ifF h (by decide)
      replace h := ao_ifF h (by decide)
      replace h := ao_ifF h (by decide)
      replace h := ao_ifF h (by decide)
      replace h := ao_ifF h (by decide)
      replace h := ao_ifF h (by decide)
      replace h := ao_ifF h (by decide)
      replace h := ao_ifF h (by decide)
      replace h := ao_ifF h (by decide)
      replace h := ao_ifF h (by decide)
      replace h := ao_ifF h (by decide)
      replace h := ao_ifF h (by decide)
      replace h := ao_ifF h (by decide)
      replace h := ao_ifT h rfl
      obtain ⟨-, h⟩ := ao_some h
      obtain ⟨-, h⟩ := ao_some h
      obtain ⟨p129, hp129, h⟩ := ao_bind h
      exact ao_le_tr (me_X12_turn n r2 (xs (x4 + (1 : Int32)).toNatClampNeg) M ρ hp129) (ih.2.2.2.2.2.2.2.2.2.2.2.2.2.2.2.2.2.2.2.1 r1 r2 r3 x4 s0 p129.1 p129.2.1 p129.2.2 _ h)
    · intro r1 r2 r3 x4 x5 s0 M ρ y h
      replace h := ao_ifF h (by decide)
      replace h := ao_ifF h (by decide)
      replace h := ao_ifF h (by decide)
      replace h := ao_ifF h (by decide)
      replace h := ao_ifF h (by decide)
      replace h := ao_ifF h (by decide)
      replace h := ao_ifF h (by decide)
      replace h := ao_ifF h (by decide)
      replace h := ao_ifF h (by decide)
      replace h := ao_ifF h (by decide)
      replace h := ao_ifF h (by decide)
      replace h := ao_ifF h (by decide)
      replace h := ao_ifF h (by decide)
      replace h := ao_ifF h (by decide)
      replace h := ao_ifF h (by decide)
      replace h := ao_ifF h (by decide)
      replace h := ao_ifF h (by decide)
      replace h := ao_ifF h (by decide)
      replace h := ao_ifF h (by decide)
      replace h := ao_ifT h rfl
      obtain ⟨-, h⟩ := ao_some h
      obtain ⟨p131, hp131, h⟩ := ao_bind h
      rcases ao_ifC h with h | h
      · rcases ao_ifC h with h | h
        · obtain ⟨-, h⟩ := ao_some h
          obtain ⟨-, h⟩ := ao_some h
          rcases ao_ifC h with h | h
          · exact ih.2.2.2.2.2.2.2.2.2.2.2.2.2.2.2.2.2.2.2.2.1 r1 r2 r3 x4 x5 s0 p131.2 ρ _ h
          · cases h
            exact ao_le_rf _
        · exact ih.2.2.2.2.2.2.2.2.2.2.2.2.2.2.2.2.2.2.2.2.1 r1 r2 r3 x4 x5 s0 p131.2 ρ _ h
      · cases h
        exact ao_le_rf _
    · intro r1 r2 r3 x4 x5 x6 M ρ y h
      replace h := ao_ifF h (by decide)
      replace h := ao_ifF h (by decide)
      replace h := ao_ifF h (by decide)
      replace h := ao_ifF h (by decide)
      replace h := ao_ifF h (by decide)
      replace h := ao_ifF h (by decide)
      replace h := ao_ifF h (by decide)
      replace h := ao_ifF h (by decide)
      replace h := ao_ifF h (by decide)
      replace h := ao_ifF h (by decide)
      replace h := ao_ifF h (by decide)
      replace h := ao_ifF h (by decide)
      replace h := ao_ifF h (by decide)
      replace h := ao_ifF h (by decide)
      replace h := ao_ifF h (by decide)
      replace h := ao_ifF h (by decide)
      replace h := ao_ifF h (by decide)
      replace h := ao_ifF h (by decide)
      replace h := ao_ifF h (by decide)
      replace h := ao_ifF h (by decide)
      replace h := ao_ifT h rfl
      exact ih.2.2.2.2.2.2.2.2.2.2.2.2.2.2.2.2.2.2.2.2.2.2.2.2.2.2.2.2.2.2.2.2.2.2.2.2.2.2.2.2.2.2 r1 r2 r3 x4 M ρ _ h
    · intro r1 r2 r3 x4 s0 M ρ y h
      replace h := ao_ifF h (by decide)
      replace h := ao_ifF h (by decide)
      replace h := ao_ifF h (by decide)
      replace h := ao_ifF h (by decide)
      replace h := ao_ifF h (by decide)
      replace h := ao_ifF h (by decide)
      replace h := ao_ifF h (by decide)
      replace h := ao_ifF h (by decide)
      replace h := ao_ifF h (by decide)
      replace h := ao_ifF h (by decide)
      replace h := ao_ifF h (by decide)
      replace h := ao_ifF h (by decide)
      replace h := ao_ifF h (by decide)
      replace h := ao_ifF h (by decide)
      replace h := ao_ifF h (by decide)
      replace h := ao_ifF h (by decide)
      replace h := ao_ifF h (by decide)
      replace h := ao_ifF h (by decide)
      replace h := ao_ifF h (by decide)
      replace h := ao_ifF h (by decide)
      replace h := ao_ifF h (by decide)
      replace h := ao_ifT h rfl
      obtain ⟨-, h⟩ := ao_some h
      obtain ⟨-, h⟩ := ao_some h
      obtain ⟨p139, hp139, h⟩ := ao_bind h
      exact ao_le_tr (me_X12_round n r2 (xs (x4 + (1 : Int32)).toNatClampNeg) M ρ hp139) (ih.2.2.2.2.2.2.2.2.2.2.2.2.2.2.2.2.2.2.2.2.2.2.1 r1 r2 r3 x4 s0 p139.1 p139.2.1 p139.2.2 _ h)
    · intro r1 r2 r3 x4 x5 s0 M ρ y h
      replace h := ao_ifF h (by decide)
      replace h := ao_ifF h (by decide)
      replace h := ao_ifF h (by decide)
      replace h := ao_ifF h (by decide)
      replace h := ao_ifF h (by decide)
      replace h := ao_ifF h (by decide)
      replace h := ao_ifF h (by decide)
      replace h := ao_ifF h (by decide)
      replace h := ao_ifF h (by decide)
      replace h := ao_ifF h (by decide)
      replace h := ao_ifF h (by decide)
      replace h := ao_ifF h (by decide)
      replace h := ao_ifF h (by decide)
      replace h := ao_ifF h (by decide)
      replace h := ao_ifF h (by decide)
      replace h := ao_ifF h (by decide)
      replace h := ao_ifF h (by decide)
      replace h := ao_ifF h (by decide)
      replace h := ao_ifF h (by decide)
      replace h := ao_ifF h (by decide)
      replace h := ao_ifF h (by decide)
      replace h := ao_ifF h (by decide)
      replace h := ao_ifT h rfl
      obtain ⟨-, h⟩ := ao_some h
      obtain ⟨p141, hp141, h⟩ := ao_bind h
      rcases ao_ifC h with h | h
      · rcases ao_ifC h with h | h
        · obtain ⟨-, h⟩ := ao_some h
          obtain ⟨-, h⟩ := ao_some h
          rcases ao_ifC h with h | h
          · exact ih.2.2.2.2.2.2.2.2.2.2.2.2.2.2.2.2.2.2.2.2.2.2.2.1 r1 r2 r3 x4 x5 s0 p141.2 ρ _ h
          · cases h
            exact ao_le_rf _
        · exact ih.2.2.2.2.2.2.2.2.2.2.2.2.2.2.2.2.2.2.2.2.2.2.2.1 r1 r2 r3 x4 x5 s0 p141.2 ρ _ h
      · cases h
        exact ao_le_rf _
    · intro r1 r2 r3 x4 x5 x6 M ρ y h
      replace h := ao_ifF h (by decide)
      replace h := ao_ifF h (by decide)
      replace h := ao_ifF h (by decide)
      replace h := ao_ifF h (by decide)
      replace h := ao_ifF h (by decide)
      replace h := ao_ifF h (by decide)
      replace h := ao_ifF h (by decide)
      replace h := ao_ifF h (by decide)
      replace h := ao_ifF h (by decide)
      replace h := ao_ifF h (by decide)
      replace h := ao_ifF h (by decide)
      replace h := ao_ifF h (by decide)
      replace h := ao_ifF h (by decide)
      replace h := ao_ifF h (by decide)
      replace h := ao_ifF h (by decide)
      replace h := ao_ifF h (by decide)
      replace h := ao_ifF h (by decide)
      replace h := ao_ifF h (by decide)
      replace h := ao_ifF h (by decide)
      replace h := ao_ifF h (by decide)
      replace h := ao_ifF h (by decide)
      replace h := ao_ifF h (by decide)
      replace h := ao_ifF h (by decide)
      replace h := ao_ifT h rfl
      exact ih.2.2.2.2.2.2.2.2.2.2.2.2.2.2.2.2.2.2.2.2.2.2.2.2.2.2.2.2.2.2.2.2.2.2.2.2.2.2.2.2.2.2 r1 r2 r3 x4 M ρ _ h
    · intro r1 r2 r3 x4 s0 M ρ y h
      replace h := ao_ifF h (by decide)
      replace h := ao_ifF h (by decide)
      replace h := ao_ifF h (by decide)
      replace h := ao_ifF h (by decide)
      replace h := ao_ifF h (by decide)
      replace h := ao_ifF h (by decide)
      replace h := ao_ifF h (by decide)
      replace h := ao_ifF h (by decide)
      replace h := ao_ifF h (by decide)
      replace h := ao_ifF h (by decide)
      replace h := ao_ifF h (by decide)
      replace h := ao_ifF h (by decide)
      replace h := ao_ifF h (by decide)
      replace h := ao_ifF h (by decide)
      replace h := ao_ifF h (by decide)
      replace h := ao_ifF h (by decide)
      replace h := ao_ifF h (by decide)
      replace h := ao_ifF h (by decide)
      replace h := ao_ifF h (by decide)
      replace h := ao_ifF h (by decide)
      replace h := ao_ifF h (by decide)
      replace h := ao_ifF h (by decide)
      replace h := ao_ifF h (by decide)
      replace h := ao_ifF h (by decide)
      replace h := ao_ifT h rfl
      obtain ⟨-, h⟩ := ao_some h
      obtain ⟨-, h⟩ := ao_some h
      obtain ⟨p149, hp149, h⟩ := ao_bind h
      replace h := ao_letD h rfl
      generalize p149.1 = v150 at h
      obtain ⟨p151, hp151, h⟩ := ao_bind h
      rcases ao_ifC h with h | h
      · rcases ao_ifC h with h | h
        · obtain ⟨-, h⟩ := ao_some h
          obtain ⟨-, h⟩ := ao_some h
          rcases ao_ifC h with h | h
          · exact ih.2.2.2.2.2.2.2.2.2.2.2.2.2.2.2.2.2.2.2.2.2.2.2.2.2.1 r1 r2 r3 x4 s0 v150 p151.2 ρ _ h
          · cases h
            exact ao_le_rf _
        · exact ih.2.2.2.2.2.2.2.2.2.2.2.2.2.2.2.2.2.2.2.2.2.2.2.2.2.1 r1 r2 r3 x4 s0 v150 p151.2 ρ _ h
      · cases h
        exact ao_le_rf _
    · intro r1 r2 r3 x4 x5 x6 M ρ y h
      replace h := ao_ifF h (by decide)
      replace h := ao_ifF h (by decide)
      replace h := ao_ifF h (by decide)
      replace h := ao_ifF h (by decide)
      replace h := ao_ifF h (by decide)
      replace h := ao_ifF h (by decide)
      replace h := ao_ifF h (by decide)
      replace h := ao_ifF h (by decide)
      replace h := ao_ifF h (by decide)
      replace h := ao_ifF h (by decide)
      replace h := ao_ifF h (by decide)
      replace h := ao_ifF h (by decide)
      replace h := ao_ifF h (by decide)
      replace h := ao_ifF h (by decide)
      replace h := ao_ifF h (by decide)
      replace h := ao_ifF h (by decide)
      replace h := ao_ifF h (by decide)
      replace h := ao_ifF h (by decide)
      replace h := ao_ifF h (by decide)
      replace h := ao_ifF h (by decide)
      replace h := ao_ifF h (by decide)
      replace h := ao_ifF h (by decide)
      replace h := ao_ifF h (by decide)
      replace h := ao_ifF h (by decide)
      replace h := ao_ifF h (by decide)
      replace h := ao_ifT h rfl
      exact ih.2.2.2.2.2.2.2.2.2.2.2.2.2.2.2.2.2.2.2.2.2.2.2.2.2.2.2.2.2.2.2.2.2.2.2.2.2.2.2.2.2.2 r1 r2 r3 x4 M ρ _ h
    · intro r1 r2 r3 x4 s0 M ρ y h
      replace h := ao_ifF h (by decide)
      replace h := ao_ifF h (by decide)
      replace h := ao_ifF h (by decide)
      replace h := ao_ifF h (by decide)
      replace h := ao_ifF h (by decide)
      replace h := ao_ifF h (by decide)
      replace h := ao_ifF h (by decide)
      replace h := ao_ifF h (by decide)
      replace h := ao_ifF h (by decide)
      replace h := ao_ifF h (by decide)
      replace h := ao_ifF h (by decide)
      replace h := ao_ifF h (by decide)
      replace h := ao_ifF h (by decide)
      replace h := ao_ifF h (by decide)
      replace h := ao_ifF h (by decide)
      replace h := ao_ifF h (by decide)
      replace h := ao_ifF h (by decide)
      replace h := ao_ifF h (by decide)
      replace h := ao_ifF h (by decide)
      replace h := ao_ifF h (by decide)
      replace h := ao_ifF h (by decide)
      replace h := ao_ifF h (by decide)
      replace h := ao_ifF h (by decide)
      replace h := ao_ifF h (by decide)
      replace h := ao_ifF h (by decide)
      replace h := ao_ifF h (by decide)
      replace h := ao_ifT h rfl
      obtain ⟨-, h⟩ := ao_some h
      obtain ⟨-, h⟩ := ao_some h
      obtain ⟨-, h⟩ := ao_some h
      obtain ⟨p160, hp160, h⟩ := ao_bind h
      replace h := ao_letD h rfl
      generalize p160.1 = v161 at h
      obtain ⟨p162, hp162, h⟩ := ao_bind h
      rcases ao_ifC h with h | h
      · rcases ao_ifC h with h | h
        · obtain ⟨-, h⟩ := ao_some h
          obtain ⟨-, h⟩ := ao_some h
          rcases ao_ifC h with h | h
          · exact ih.2.2.2.2.2.2.2.2.2.2.2.2.2.2.2.2.2.2.2.2.2.2.2.2.2.2.2.1 r1 r2 r3 x4 s0 v161 p162.2 ρ _ h
          · cases h
            exact ao_le_rf _
        · exact ih.2.2.2.2.2.2.2.2.2.2.2.2.2.2.2.2.2.2.2.2.2.2.2.2.2.2.2.1 r1 r2 r3 x4 s0 v161 p162.2 ρ _ h
      · cases h
        exact ao_le_rf _
    · intro r1 r2 r3 x4 x5 x6 M ρ y h
      replace h := ao_ifF h (by decide)
      replace h := ao_ifF h (by decide)
      replace h := ao_ifF h (by decide)
      replace h := ao_ifF h (by decide)
      replace h := ao_ifF h (by decide)
      replace h := ao_ifF h (by decide)
      replace h := ao_ifF h (by decide)
      replace h := ao_ifF h (by decide)
      replace h := ao_ifF h (by decide)
      replace h := ao_ifF h (by decide)
      replace h := ao_ifF h (by decide)
      replace h := ao_ifF h (by decide)
      replace h := ao_ifF h (by decide)
      replace h := ao_ifF h (by decide)
      replace h := ao_ifF h (by decide)
      replace h := ao_ifF h (by decide)
      replace h := ao_ifF h (by decide)
      replace h := ao_ifF h (by decide)
      replace h := ao_ifF h (by decide)
      replace h := ao_ifF h (by decide)
      replace h := ao_ifF h (by decide)
      replace h := ao_ifF h (by decide)
      replace h := ao_ifF h (by decide)
      replace h := ao_ifF h (by decide)
      replace h := ao_ifF h (by decide)
      replace h := ao_ifF h (by decide)
      replace h := ao_ifF h (by decide)
      replace h := ao_ifT h rfl
      exact ih.2.2.2.2.2.2.2.2.2.2.2.2.2.2.2.2.2.2.2.2.2.2.2.2.2.2.2.2.2.2.2.2.2.2.2.2.2.2.2.2.2.2 r1 r2 r3 x4 M ρ _ h
    · intro r1 r2 r3 x4 s0 M ρ y h
      replace h := ao_ifF h (by decide)
      replace h := ao_ifF h (by decide)
      replace h := ao_ifF h (by decide)
      replace h := ao_ifF h (by decide)
      replace h := ao_ifF h (by decide)
      replace h := ao_ifF h (by decide)
      replace h := ao_ifF h (by decide)
      replace h := ao_ifF h (by decide)
      replace h := ao_ifF h (by decide)
      replace h := ao_ifF h (by decide)
      replace h := ao_ifF h (by decide)
      replace h := ao_ifF h (by decide)
      replace h := ao_ifF h (by decide)
      replace h := ao_ifF h (by decide)
      replace h := ao_ifF h (by decide)
      replace h := ao_ifF h (by decide)
      replace h := ao_ifF h (by decide)
      replace h := ao_ifF h (by decide)
      replace h := ao_ifF h (by decide)
      replace h := ao_ifF h (by decide)
      replace h := ao_ifF h (by decide)
      replace h := ao_ifF h (by decide)
      replace h := ao_ifF h (by decide)
      replace h := ao_ifF h (by decide)
      replace h := ao_ifF h (by decide)
      replace h := ao_ifF h (by decide)
      replace h := ao_ifF h (by decide)
      replace h := ao_ifF h (by decide)
      replace h := ao_ifT h rfl
      obtain ⟨-, h⟩ := ao_some h
      obtain ⟨-, h⟩ := ao_some h
      obtain ⟨-, h⟩ := ao_some h
      obtain ⟨p171, hp171, h⟩ := ao_bind h
      replace h := ao_letD h rfl
      generalize p171.1 = v172 at h
      obtain ⟨p173, hp173, h⟩ := ao_bind h
      rcases ao_ifC h with h | h
      · rcases ao_ifC h with h | h
        · obtain ⟨-, h⟩ := ao_some h
          obtain ⟨-, h⟩ := ao_some h
          rcases ao_ifC h with h | h
          · exact ih.2.2.2.2.2.2.2.2.2.2.2.2.2.2.2.2.2.2.2.2.2.2.2.2.2.2.2.2.2.1 r1 r2 r3 x4 s0 v172 p173.2 ρ _ h
          · cases h
            exact ao_le_rf _
        · exact ih.2.2.2.2.2.2.2.2.2.2.2.2.2.2.2.2.2.2.2.2.2.2.2.2.2.2.2.2.2.1 r1 r2 r3 x4 s0 v172 p173.2 ρ _ h
      · cases h
        exact ao_le_rf _
    · intro r1 r2 r3 x4 x5 x6 M ρ y h
      replace h := ao_ifF h (by decide)
      replace h := ao_ifF h (by decide)
      replace h := ao_ifF h (by decide)
      replace h := ao_ifF h (by decide)
      replace h := ao_ifF h (by decide)
      replace h := ao_ifF h (by decide)
      replace h := ao_ifF h (by decide)
      replace h := ao_ifF h (by decide)
      replace h := ao_ifF h (by decide)
      replace h := ao_ifF h (by decide)
      replace h := ao_ifF h (by decide)
      replace h := ao_ifF h (by decide)
      replace h := ao_ifF h (by decide)
      replace h := ao_ifF h (by decide)
      replace h := ao_ifF h (by decide)
      replace h := ao_ifF h (by decide)
      replace h := ao_ifF h (by decide)
      replace h := ao_ifF h (by decide)
      replace h := ao_ifF h (by decide)
      replace h := ao_ifF h (by decide)
      replace h := ao_ifF h (by decide)
      replace h := ao_ifF h (by decide)
      replace h := ao_ifF h (by decide)
      replace h := ao_ifF h (by decide)
      replace h := ao_ifF h (by decide)
      replace h := ao_ifF h (by decide)
      replace h := ao_ifF h (by decide)
      replace h := ao_ifF h (by decide)
      replace h := ao_ifF h (by decide)
      replace h := ao_ifT h rfl
      exact ih.2.2.2.2.2.2.2.2.2.2.2.2.2.2.2.2.2.2.2.2.2.2.2.2.2.2.2.2.2.2.2.2.2.2.2.2.2.2.2.2.2.2 r1 r2 r3 x4 M ρ _ h
    · intro r1 r2 r3 x4 s0 s1 q2 M ρ y h
      replace h := ao_ifF h (by decide)
      replace h := ao_ifF h (by decide)
      replace h := ao_ifF h (by decide)
      replace h := ao_ifF h (by decide)
      replace h := ao_ifF h (by decide)
      replace h := ao_ifF h (by decide)
      replace h := ao_ifF h (by decide)
      replace h := ao_ifF h (by decide)
      replace h := ao_ifF h (by decide)
      replace h := ao_ifF h (by decide)
      replace h := ao_ifF h (by decide)
      replace h := ao_ifF h (by decide)
      replace h := ao_ifF h (by decide)
      replace h := ao_ifF h (by decide)
      replace h := ao_ifF h (by decide)
      replace h := ao_ifF h (by decide)
      replace h := ao_ifF h (by decide)
      replace h := ao_ifF h (by decide)
      replace h := ao_ifF h (by decide)
      replace h := ao_ifF h (by decide)
      replace h := ao_ifF h (by decide)
      replace h := ao_ifF h (by decide)
      replace h := ao_ifF h (by decide)
      replace h := ao_ifF h (by decide)
      replace h := ao_ifF h (by decide)
      replace h := ao_ifF h (by decide)
      replace h := ao_ifF h (by decide)
      replace h := ao_ifF h (by decide)
      replace h := ao_ifF h (by decide)
      replace h := ao_ifF h (by decide)
      replace h := ao_ifT h rfl
      obtain ⟨p179, hp179, h⟩ := ao_bind h
      exact ao_le_tr (me_L_said n q2 s1 s0 r3 M ρ hp179) (ih.2.2.2.2.2.2.2.2.2.2.2.2.2.2.2.2.2.2.2.2.2.2.2.2.2.2.2.2.2.2.2.1 r1 r2 r3 x4 p179.1 p179.2.1 p179.2.2 _ h)
    · intro r1 r2 r3 x4 s0 M ρ y h
      replace h := ao_ifF h (by decide)
      replace h := ao_ifF h (by decide)
      replace h := ao_ifF h (by decide)
      replace h := ao_ifF h (by decide)
      replace h := ao_ifF h (by decide)
      replace h := ao_ifF h (by decide)
      replace h := ao_ifF h (by decide)
      replace h := ao_ifF h (by decide)
      replace h := ao_ifF h (by decide)
      replace h := ao_ifF h (by decide)
      replace h := ao_ifF h (by decide)
      replace h := ao_ifF h (by decide)
      replace h := ao_ifF h (by decide)
      replace h := ao_ifF h (by decide)
      replace h := ao_ifF h (by decide)
      replace h := ao_ifF h (by decide)
      replace h := ao_ifF h (by decide)
      replace h := ao_ifF h (by decide)
      replace h := ao_ifF h (by decide)
      replace h := ao_ifF h (by decide)
      replace h := ao_ifF h (by decide)
      replace h := ao_ifF h (by decide)
      replace h := ao_ifF h (by decide)
      replace h := ao_ifF h (by decide)
      replace h := ao_ifF h (by decide)
      replace h := ao_ifF h (by decide)
      replace h := ao_ifF h (by decide)
      replace h := ao_ifF h (by decide)
      replace h := ao_ifF h (by decide)
      replace h := ao_ifF h (by decide)
      replace h := ao_ifF h (by decide)
      replace h := ao_ifT h rfl
      obtain ⟨-, h⟩ := ao_some h
      obtain ⟨-, h⟩ := ao_some h
      rcases ao_ifC h with h | h
      · exact ih.2.2.2.2.2.2.2.2.2.2.2.2.2.2.2.2.2.2.2.2.2.2.2.2.2.2.2.2.2.2.2.2.1 r1 r2 r3 x4 s0 (0 : Int32) (xs (x4 + (1 : Int32)).toNatClampNeg) r2 M ρ _ h
      · exact ih.2.2.2.2.2.2.2.2.2.2.2.2.2.2.2.2.2.2.2.2.2.2.2.2.2.2.2.2.2.2.2.2.1 r1 r2 r3 x4 s0 (1 : Int32) (xs (x4 + (1 : Int32)).toNatClampNeg) r2 M ρ _ h
    · intro r1 r2 r3 x4 x5 s0 s1 q2 M ρ y h
      replace h := ao_ifF h (by decide)
      replace h := ao_ifF h (by decide)
      replace h := ao_ifF h (by decide)
      replace h := ao_ifF h (by decide)
      replace h := ao_ifF h (by decide)
      replace h := ao_ifF h (by decide)
      replace h := ao_ifF h (by decide)
      replace h := ao_ifF h (by decide)
      replace h := ao_ifF h (by decide)
      replace h := ao_ifF h (by decide)
      replace h := ao_ifF h (by decide)
      replace h := ao_ifF h (by decide)
      replace h := ao_ifF h (by decide)
      replace h := ao_ifF h (by decide)
      replace h := ao_ifF h (by decide)
      replace h := ao_ifF h (by decide)
      replace h := ao_ifF h (by decide)
      replace h := ao_ifF h (by decide)
      replace h := ao_ifF h (by decide)
      replace h := ao_ifF h (by decide)
      replace h := ao_ifF h (by decide)
      replace h := ao_ifF h (by decide)
      replace h := ao_ifF h (by decide)
      replace h := ao_ifF h (by decide)
      replace h := ao_ifF h (by decide)
      replace h := ao_ifF h (by decide)
      replace h := ao_ifF h (by decide)
      replace h := ao_ifF h (by decide)
      replace h := ao_ifF h (by decide)
      replace h := ao_ifF h (by decide)
      replace h := ao_ifF h (by decide)
      replace h := ao_ifF h (by decide)
      replace h := ao_ifT h rfl
      obtain ⟨-, h⟩ := ao_some h
      obtain ⟨p184, hp184, h⟩ := ao_bind h
      replace h := ao_letD h rfl
      generalize p184.1 = v185 at h
      obtain ⟨-, h⟩ := ao_some h
      obtain ⟨p187, hp187, h⟩ := ao_bind h
      rcases ao_ifC h with h | h
      · rcases ao_ifC h with h | h
        · obtain ⟨-, h⟩ := ao_some h
          obtain ⟨-, h⟩ := ao_some h
          rcases ao_ifC h with h | h
          · exact ih.2.2.2.2.2.2.2.2.2.2.2.2.2.2.2.2.2.2.2.2.2.2.2.2.2.2.2.2.2.2.2.2.2.1 r1 r2 r3 x4 x5 v185 p187.2 ρ _ h
          · cases h
            exact ao_le_rf _
        · exact ih.2.2.2.2.2.2.2.2.2.2.2.2.2.2.2.2.2.2.2.2.2.2.2.2.2.2.2.2.2.2.2.2.2.1 r1 r2 r3 x4 x5 v185 p187.2 ρ _ h
      · cases h
        exact ao_le_rf _
    · intro r1 r2 r3 x4 x5 x6 M ρ y h
      replace h := ao_ifF h (by decide)
      replace h := ao_ifF h (by decide)
      replace h := ao_ifF h (by decide)
      replace h := ao_ifF h (by decide)
      replace h := ao_ifF h (by decide)
      replace h := ao_ifF h (by decide)
      replace h := ao_ifF h (by decide)
      replace h := ao_ifF h (by decide)
      replace h := ao_ifF h (by decide)
      replace h := ao_ifF h (by decide)
      replace h := ao_ifF h (by decide)
      replace h := ao_ifF h (by decide)
      replace h := ao_ifF h (by decide)
      replace h := ao_ifF h (by decide)
      replace h := ao_ifF h (by decide)
      replace h := ao_ifF h (by decide)
      replace h := ao_ifF h (by decide)
      replace h := ao_ifF h (by decide)
      replace h := ao_ifF h (by decide)
      replace h := ao_ifF h (by decide)
      replace h := ao_ifF h (by decide)
      replace h := ao_ifF h (by decide)
      replace h := ao_ifF h (by decide)
      replace h := ao_ifF h (by decide)
      replace h := ao_ifF h (by decide)
      replace h := ao_ifF h (by decide)
      replace h := ao_ifF h (by decide)
      replace h := ao_ifF h (by decide)
      replace h := ao_ifF h (by decide)
      replace h := ao_ifF h (by decide)
      replace h := ao_ifF h (by decide)
      replace h := ao_ifF h (by decide)
      replace h := ao_ifF h (by decide)
      replace h := ao_ifT h rfl
      exact ih.2.2.2.2.2.2.2.2.2.2.2.2.2.2.2.2.2.2.2.2.2.2.2.2.2.2.2.2.2.2.2.2.2.2.2.2.2.2.2.2.2.2 r1 r2 r3 x4 M ρ _ h
    · intro r1 r2 r3 x4 s0 M ρ y h
      replace h := ao_ifF h (by decide)
      replace h := ao_ifF h (by decide)
      replace h := ao_ifF h (by decide)
      replace h := ao_ifF h (by decide)
      replace h := ao_ifF h (by decide)
      replace h := ao_ifF h (by decide)
      replace h := ao_ifF h (by decide)
      replace h := ao_ifF h (by decide)
      replace h := ao_ifF h (by decide)
      replace h := ao_ifF h (by decide)
      replace h := ao_ifF h (by decide)
      replace h := ao_ifF h (by decide)
      replace h := ao_ifF h (by decide)
      replace h := ao_ifF h (by decide)
      replace h := ao_ifF h (by decide)
      replace h := ao_ifF h (by decide)
      replace h := ao_ifF h (by decide)
      replace h := ao_ifF h (by decide)
      replace h := ao_ifF h (by decide)
      replace h := ao_ifF h (by decide)
      replace h := ao_ifF h (by decide)
      replace h := ao_ifF h (by decide)
      replace h := ao_ifF h (by decide)
      replace h := ao_ifF h (by decide)
      replace h := ao_ifF h (by decide)
      replace h := ao_ifF h (by decide)
      replace h := ao_ifF h (by decide)
      replace h := ao_ifF h (by decide)
      replace h := ao_ifF h (by decide)
      replace h := ao_ifF h (by decide)
      replace h := ao_ifF h (by decide)
      replace h := ao_ifF h (by decide)
      replace h := ao_ifF h (by decide)
      replace h := ao_ifF h (by decide)
      replace h := ao_ifT h rfl
      obtain ⟨-, h⟩ := ao_some h
      obtain ⟨-, h⟩ := ao_some h
      obtain ⟨-, h⟩ := ao_some h
      obtain ⟨p196, hp196, h⟩ := ao_bind h
      replace h := ao_letD h rfl
      generalize p196.1 = v197 at h
      obtain ⟨p198, hp198, h⟩ := ao_bind h
      rcases ao_ifC h with h | h
      · rcases ao_ifC h with h | h
        · obtain ⟨-, h⟩ := ao_some h
          obtain ⟨-, h⟩ := ao_some h
          rcases ao_ifC h with h | h
          · exact ih.2.2.2.2.2.2.2.2.2.2.2.2.2.2.2.2.2.2.2.2.2.2.2.2.2.2.2.2.2.2.2.2.2.2.2.1 r1 r2 r3 x4 s0 v197 p198.2 ρ _ h
          · cases h
            exact ao_le_rf _
        · exact ih.2.2.2.2.2.2.2.2.2.2.2.2.2.2.2.2.2.2.2.2.2.2.2.2.2.2.2.2.2.2.2.2.2.2.2.1 r1 r2 r3 x4 s0 v197 p198.2 ρ _ h
      · cases h
        exact ao_le_rf _
    · intro r1 r2 r3 x4 x5 x6 M ρ y h
      replace h := ao_ifF h (by decide)
      replace h := ao_ifF h (by decide)
      replace h := ao_ifF h (by decide)
      replace h := ao_ifF h (by decide)
      replace h := ao_ifF h (by decide)
      replace h := ao_ifF h (by decide)
      replace h := ao_ifF h (by decide)
      replace h := ao_ifF h (by decide)
      replace h := ao_ifF h (by decide)
      replace h := ao_ifF h (by decide)
      replace h := ao_ifF h (by decide)
      replace h := ao_ifF h (by decide)
      replace h := ao_ifF h (by decide)
      replace h := ao_ifF h (by decide)
      replace h := ao_ifF h (by decide)
      replace h := ao_ifF h (by decide)
      replace h := ao_ifF h (by decide)
      replace h := ao_ifF h (by decide)
      replace h := ao_ifF h (by decide)
      replace h := ao_ifF h (by decide)
      replace h := ao_ifF h (by decide)
      replace h := ao_ifF h (by decide)
      replace h := ao_ifF h (by decide)
      replace h := ao_ifF h (by decide)
      replace h := ao_ifF h (by decide)
      replace h := ao_ifF h (by decide)
      replace h := ao_ifF h (by decide)
      replace h := ao_ifF h (by decide)
      replace h := ao_ifF h (by decide)
      replace h := ao_ifF h (by decide)
      replace h := ao_ifF h (by decide)
      replace h := ao_ifF h (by decide)
      replace h := ao_ifF h (by decide)
      replace h := ao_ifF h (by decide)
      replace h := ao_ifF h (by decide)
      replace h := ao_ifT h rfl
      exact ih.2.2.2.2.2.2.2.2.2.2.2.2.2.2.2.2.2.2.2.2.2.2.2.2.2.2.2.2.2.2.2.2.2.2.2.2.2.2.2.2.2.2 r1 r2 r3 x4 M ρ _ h
    · intro r1 r2 r3 x4 s0 M ρ y h
      replace h := ao_ifF h (by decide)
      replace h := ao_ifF h (by decide)
      replace h := ao_ifF h (by decide)
      replace h := ao_ifF h (by decide)
      replace h := ao_ifF h (by decide)
      replace h := ao_ifF h (by decide)
      replace h := ao_ifF h (by decide)
      replace h := ao_ifF h (by decide)
      replace h := ao_ifF h (by decide)
      replace h := ao_ifF h (by decide)
      replace h := ao_ifF h (by decide)
      replace h := ao_ifF h (by decide)
      replace h := ao_ifF h (by decide)
      replace h := ao_ifF h (by decide)
      replace h := ao_ifF h (by decide)
      replace h := ao_ifF h (by decide)
      replace h := ao_ifF h (by decide)
      replace h := ao_ifF h (by decide)
      replace h := ao_ifF h (by decide)
      replace h := ao_ifF h (by decide)
      replace h := ao_ifF h (by decide)
      replace h := ao_ifF h (by decide)
      replace h := ao_ifF h (by decide)
      replace h := ao_ifF h (by decide)
      replace h := ao_ifF h (by decide)
      replace h := ao_ifF h (by decide)
      replace h := ao_ifF h (by decide)
      replace h := ao_ifF h (by decide)
      replace h := ao_ifF h (by decide)
      replace h := ao_ifF h (by decide)
      replace h := ao_ifF h (by decide)
      replace h := ao_ifF h (by decide)
      replace h := ao_ifF h (by decide)
      replace h := ao_ifF h (by decide)
      replace h := ao_ifF h (by decide)
      replace h := ao_ifF h (by decide)
      replace h := ao_ifT h rfl
      obtain ⟨-, h⟩ := ao_some h
      obtain ⟨-, h⟩ := ao_some h
      obtain ⟨p206, hp206, h⟩ := ao_bind h
      replace h := ao_letD h rfl
      generalize p206.1 = v207 at h
      obtain ⟨p208, hp208, h⟩ := ao_bind h
      rcases ao_ifC h with h | h
      · rcases ao_ifC h with h | h
        · obtain ⟨-, h⟩ := ao_some h
          obtain ⟨-, h⟩ := ao_some h
          rcases ao_ifC h with h | h
          · exact ih.2.2.2.2.2.2.2.2.2.2.2.2.2.2.2.2.2.2.2.2.2.2.2.2.2.2.2.2.2.2.2.2.2.2.2.2.2.1 r1 r2 r3 x4 s0 v207 p208.2 ρ _ h
          · cases h
            exact ao_le_rf _
        · exact ih.2.2.2.2.2.2.2.2.2.2.2.2.2.2.2.2.2.2.2.2.2.2.2.2.2.2.2.2.2.2.2.2.2.2.2.2.2.1 r1 r2 r3 x4 s0 v207 p208.2 ρ _ h
      · cases h
        exact ao_le_rf _
    · intro r1 r2 r3 x4 x5 x6 M ρ y h
      replace h := ao_ifF h (by decide)
      replace h := ao_ifF h (by decide)
      replace h := ao_ifF h (by decide)
      replace h := ao_ifF h (by decide)
      replace h := ao_ifF h (by decide)
      replace h := ao_ifF h (by decide)
      replace h := ao_ifF h (by decide)
      replace h := ao_ifF h (by decide)
      replace h := ao_ifF h (by decide)
      replace h := ao_ifF h (by decide)
      replace h := ao_ifF h (by decide)
      replace h := ao_ifF h (by decide)
      replace h := ao_ifF h (by decide)
      replace h := ao_ifF h (by decide)
      replace h := ao_ifF h (by decide)
      replace h := ao_ifF h (by decide)
      replace h := ao_ifF h (by decide)
      replace h := ao_ifF h (by decide)
      replace h := ao_ifF h (by decide)
      replace h := ao_ifF h (by decide)
      replace h := ao_ifF h (by decide)
      replace h := ao_ifF h (by decide)
      replace h := ao_ifF h (by decide)
      replace h := ao_ifF h (by decide)
      replace h := ao_ifF h (by decide)
      replace h := ao_ifF h (by decide)
      replace h := ao_ifF h (by decide)
      replace h := ao_ifF h (by decide)
      replace h := ao_ifF h (by decide)
      replace h := ao_ifF h (by decide)
      replace h := ao_ifF h (by decide)
      replace h := ao_ifF h (by decide)
      replace h := ao_ifF h (by decide)
      replace h := ao_ifF h (by decide)
      replace h := ao_ifF h (by decide)
      replace h := ao_ifF h (by decide)
      replace h := ao_ifF h (by decide)
      replace h := ao_ifT h rfl
      exact ih.2.2.2.2.2.2.2.2.2.2.2.2.2.2.2.2.2.2.2.2.2.2.2.2.2.2.2.2.2.2.2.2.2.2.2.2.2.2.2.2.2.2 r1 r2 r3 x4 M ρ _ h
    · intro r1 r2 r3 x4 s0 M ρ y h
      replace h := ao_ifF h (by decide)
      replace h := ao_ifF h (by decide)
      replace h := ao_ifF h (by decide)
      replace h := ao_ifF h (by decide)
      replace h := ao_ifF h (by decide)
      replace h := ao_ifF h (by decide)
      replace h := ao_ifF h (by decide)
      replace h := ao_ifF h (by decide)
      replace h := ao_ifF h (by decide)
      replace h := ao_ifF h (by decide)
      replace h := ao_ifF h (by decide)
      replace h := ao_ifF h (by decide)
      replace h := ao_ifF h (by decide)
      replace h := ao_ifF h (by decide)
      replace h := ao_ifF h (by decide)
      replace h := ao_ifF h (by decide)
      replace h := ao_ifF h (by decide)
      replace h := ao_ifF h (by decide)
      replace h := ao_ifF h (by decide)
      replace h := ao_ifF h (by decide)
      replace h := ao_ifF h (by decide)
      replace h := ao_ifF h (by decide)
      replace h := ao_ifF h (by decide)
      replace h := ao_ifF h (by decide)
      replace h := ao_ifF h (by decide)
      replace h := ao_ifF h (by decide)
      replace h := ao_ifF h (by decide)
      replace h := ao_ifF h (by decide)
      replace h := ao_ifF h (by decide)
      replace h := ao_ifF h (by decide)
      replace h := ao_ifF h (by decide)
      replace h := ao_ifF h (by decide)
      replace h := ao_ifF h (by decide)
      replace h := ao_ifF h (by decide)
      replace h := ao_ifF h (by decide)
      replace h := ao_ifF h (by decide)
      replace h := ao_ifF h (by decide)
      replace h := ao_ifF h (by decide)
      replace h := ao_ifT h rfl
      obtain ⟨-, h⟩ := ao_some h
      obtain ⟨-, h⟩ := ao_some h
      obtain ⟨-, h⟩ := ao_some h
      obtain ⟨p217, hp217, h⟩ := ao_bind h
      replace h := ao_letD h rfl
      generalize p217.1 = v218 at h
      obtain ⟨p219, hp219, h⟩ := ao_bind h
      rcases ao_ifC h with h | h
      · rcases ao_ifC h with h | h
        · obtain ⟨-, h⟩ := ao_some h
          obtain ⟨-, h⟩ := ao_some h
          rcases ao_ifC h with h | h
          · exact ih.2.2.2.2.2.2.2.2.2.2.2.2.2.2.2.2.2.2.2.2.2.2.2.2.2.2.2.2.2.2.2.2.2.2.2.2.2.2.2.1 r1 r2 r3 x4 s0 v218 p219.2 ρ _ h
          · cases h
            exact ao_le_rf _
        · exact ih.2.2.2.2.2.2.2.2.2.2.2.2.2.2.2.2.2.2.2.2.2.2.2.2.2.2.2.2.2.2.2.2.2.2.2.2.2.2.2.1 r1 r2 r3 x4 s0 v218 p219.2 ρ _ h
      · cases h
        exact ao_le_rf _
    · intro r1 r2 r3 x4 x5 x6 M ρ y h
      replace h := ao_ifF h (by decide)
      replace h := ao_ifF h (by decide)
      replace h := ao_ifF h (by decide)
      replace h := ao_ifF h (by decide)
      replace h := ao_ifF h (by decide)
      replace h := ao_ifF h (by decide)
      replace h := ao_ifF h (by decide)
      replace h := ao_ifF h (by decide)
      replace h := ao_ifF h (by decide)
      replace h := ao_ifF h (by decide)
      replace h := ao_ifF h (by decide)
      replace h := ao_ifF h (by decide)
      replace h := ao_ifF h (by decide)
      replace h := ao_ifF h (by decide)
      replace h := ao_ifF h (by decide)
      replace h := ao_ifF h (by decide)
      replace h := ao_ifF h (by decide)
      replace h := ao_ifF h (by decide)
      replace h := ao_ifF h (by decide)
      replace h := ao_ifF h (by decide)
      replace h := ao_ifF h (by decide)
      replace h := ao_ifF h (by decide)
      replace h := ao_ifF h (by decide)
      replace h := ao_ifF h (by decide)
      replace h := ao_ifF h (by decide)
      replace h := ao_ifF h (by decide)
      replace h := ao_ifF h (by decide)
      replace h := ao_ifF h (by decide)
      replace h := ao_ifF h (by decide)
      replace h := ao_ifF h (by decide)
      replace h := ao_ifF h (by decide)
      replace h := ao_ifF h (by decide)
      replace h := ao_ifF h (by decide)
      replace h := ao_ifF h (by decide)
      replace h := ao_ifF h (by decide)
      replace h := ao_ifF h (by decide)
      replace h := ao_ifF h (by decide)
      replace h := ao_ifF h (by decide)
      replace h := ao_ifF h (by decide)
      replace h := ao_ifT h rfl
      exact ih.2.2.2.2.2.2.2.2.2.2.2.2.2.2.2.2.2.2.2.2.2.2.2.2.2.2.2.2.2.2.2.2.2.2.2.2.2.2.2.2.2.2 r1 r2 r3 x4 M ρ _ h
    · intro r1 r2 r3 x4 s0 M ρ y h
      replace h := ao_ifF h (by decide)
      replace h := ao_ifF h (by decide)
      replace h := ao_ifF h (by decide)
      replace h := ao_ifF h (by decide)
      replace h := ao_ifF h (by decide)
      replace h := ao_ifF h (by decide)
      replace h := ao_ifF h (by decide)
      replace h := ao_ifF h (by decide)
      replace h := ao_ifF h (by decide)
      replace h := ao_ifF h (by decide)
      replace h := ao_ifF h (by decide)
      replace h := ao_ifF h (by decide)
      replace h := ao_ifF h (by decide)
      replace h := ao_ifF h (by decide)
      replace h := ao_ifF h (by decide)
      replace h := ao_ifF h (by decide)
      replace h := ao_ifF h (by decide)
      replace h := ao_ifF h (by decide)
      replace h := ao_ifF h (by decide)
      replace h := ao_ifF h (by decide)
      replace h := ao_ifF h (by decide)
      replace h := ao_ifF h (by decide)
      replace h := ao_ifF h (by decide)
      replace h := ao_ifF h (by decide)
      replace h := ao_ifF h (by decide)
      replace h := ao_ifF h (by decide)
      replace h := ao_ifF h (by decide)
      replace h := ao_ifF h (by decide)
      replace h := ao_ifF h (by decide)
      replace h := ao_ifF h (by decide)
      replace h := ao_ifF h (by decide)
      replace h := ao_ifF h (by decide)
      replace h := ao_ifF h (by decide)
      replace h := ao_ifF h (by decide)
      replace h := ao_ifF h (by decide)
      replace h := ao_ifF h (by decide)
      replace h := ao_ifF h (by decide)
      replace h := ao_ifF h (by decide)
      replace h := ao_ifF h (by decide)
      replace h := ao_ifF h (by decide)
      replace h := ao_ifT h rfl
      obtain ⟨-, h⟩ := ao_some h
      obtain ⟨-, h⟩ := ao_some h
      obtain ⟨p227, hp227, h⟩ := ao_bind h
      replace h := ao_letD h rfl
      generalize p227.1 = v228 at h
      obtain ⟨p229, hp229, h⟩ := ao_bind h
      rcases ao_ifC h with h | h
      · rcases ao_ifC h with h | h
        · obtain ⟨-, h⟩ := ao_some h
          obtain ⟨-, h⟩ := ao_some h
          rcases ao_ifC h with h | h
          · exact ih.2.2.2.2.2.2.2.2.2.2.2.2.2.2.2.2.2.2.2.2.2.2.2.2.2.2.2.2.2.2.2.2.2.2.2.2.2.2.2.2.2.1 r1 r2 r3 x4 s0 v228 p229.2 ρ _ h
          · cases h
            exact ao_le_rf _
        · exact ih.2.2.2.2.2.2.2.2.2.2.2.2.2.2.2.2.2.2.2.2.2.2.2.2.2.2.2.2.2.2.2.2.2.2.2.2.2.2.2.2.2.1 r1 r2 r3 x4 s0 v228 p229.2 ρ _ h
      · cases h
        exact ao_le_rf _
    · intro r1 r2 r3 x4 x5 x6 M ρ y h
      replace h := ao_ifF h (by decide)
      replace h := ao_ifF h (by decide)
      replace h := ao_ifF h (by decide)
      replace h := ao_ifF h (by decide)
      replace h := ao_ifF h (by decide)
      replace h := ao_ifF h (by decide)
      replace h := ao_ifF h (by decide)
      replace h := ao_ifF h (by decide)
      replace h := ao_ifF h (by decide)
      replace h := ao_ifF h (by decide)
      replace h := ao_ifF h (by decide)
      replace h := ao_ifF h (by decide)
      replace h := ao_ifF h (by decide)
      replace h := ao_ifF h (by decide)
      replace h := ao_ifF h (by decide)
      replace h := ao_ifF h (by decide)
      replace h := ao_ifF h (by decide)
      replace h := ao_ifF h (by decide)
      replace h := ao_ifF h (by decide)
      replace h := ao_ifF h (by decide)
      replace h := ao_ifF h (by decide)
      replace h := ao_ifF h (by decide)
      replace h := ao_ifF h (by decide)
      replace h := ao_ifF h (by decide)
      replace h := ao_ifF h (by decide)
      replace h := ao_ifF h (by decide)
      replace h := ao_ifF h (by decide)
      replace h := ao_ifF h (by decide)
      replace h := ao_ifF h (by decide)
      replace h := ao_ifF h (by decide)
      replace h := ao_ifF h (by decide)
      replace h := ao_ifF h (by decide)
      replace h := ao_ifF h (by decide)
      replace h := ao_ifF h (by decide)
      replace h := ao_ifF h (by decide)
      replace h := ao_ifF h (by decide)
      replace h := ao_ifF h (by decide)
      replace h := ao_ifF h (by decide)
      replace h := ao_ifF h (by decide)
      replace h := ao_ifF h (by decide)
      replace h := ao_ifF h (by decide)
      replace h := ao_ifT h rfl
      exact ih.2.2.2.2.2.2.2.2.2.2.2.2.2.2.2.2.2.2.2.2.2.2.2.2.2.2.2.2.2.2.2.2.2.2.2.2.2.2.2.2.2.2 r1 r2 r3 x4 M ρ _ h
    · intro r1 r2 r3 x4 M ρ y h
      replace h := ao_ifF h (by decide)
      replace h := ao_ifF h (by decide)
      replace h := ao_ifF h (by decide)
      replace h := ao_ifF h (by decide)
      replace h := ao_ifF h (by decide)
      replace h := ao_ifF h (by decide)
      replace h := ao_ifF h (by decide)
      replace h := ao_ifF h (by decide)
      replace h := ao_ifF h (by decide)
      replace h := ao_ifF h (by decide)
      replace h := ao_ifF h (by decide)
      replace h := ao_ifF h (by decide)
      replace h := ao_ifF h (by decide)
      replace h := ao_ifF h (by decide)
      replace h := ao_ifF h (by decide)
      replace h := ao_ifF h (by decide)
      replace h := ao_ifF h (by decide)
      replace h := ao_ifF h (by decide)
      replace h := ao_ifF h (by decide)
      replace h := ao_ifF h (by decide)
      replace h := ao_ifF h (by decide)
      replace h := ao_ifF h (by decide)
      replace h := ao_ifF h (by decide)
      replace h := ao_ifF h (by decide)
      replace h := ao_ifF h (by decide)
      replace h := ao_ifF h (by decide)
      replace h := ao_ifF h (by decide)
      replace h := ao_ifF h (by decide)
      replace h := ao_ifF h (by decide)
      replace h := ao_ifF h (by decide)
      replace h := ao_ifF h (by decide)
      replace h := ao_ifF h (by decide)
      replace h := ao_ifF h (by decide)
      replace h := ao_ifF h (by decide)
      replace h := ao_ifF h (by decide)
      replace h := ao_ifF h (by decide)
      replace h := ao_ifF h (by decide)
      replace h := ao_ifF h (by decide)
      replace h := ao_ifF h (by decide)
      replace h := ao_ifF h (by decide)
      replace h := ao_ifF h (by decide)
      replace h := ao_ifF h (by decide)
      replace h := ao_ifT h rfl
      replace h := ao_letD h rfl
      generalize (x4 + (6 : Int32)) = v235 at h
      exact ih.2.2.2.2.2.2.1 r1 r2 r3 v235 M ρ _ h
set_option maxRecDepth 100000 in
set_option maxHeartbeats 4000000 in
theorem wL_law {Γ : ao_C} {bS L : Nat} {xs : Nat → Int32} (d : Nat) (hd : d = 1001) : ∀ n : Nat, (∀ (M : ao_M) (ρ : ao_H) (y : Int32 × ao_S), fL_law L xs n 0 0 0 0 0 0 0 0 0 0 0 M ρ = some y → y.1 = 1 → ao_W Γ uL_law room_1 (lq_Q Γ bS L xs) (ao_dc ρ y.2.2) (ao_ds ρ y.2.2) 0 [some (.ref bS), none, none, none, none, none, none] [] (M, ρ)) ∧ (∀ (q0 : Nat) (M : ao_M) (ρ : ao_H) (y : Int32 × ao_S), fL_law L xs n 3 0 0 0 0 0 0 q0 0 0 0 M ρ = some y → y.1 = 1 → ao_W Γ uL_law room_1 (lq_Q Γ bS L xs) (ao_dc ρ y.2.2) (ao_ds ρ y.2.2) 3 [some (.ref bS), none, none, none, none, none, none] [.ref (Γ.2.2.2 + q0)] (M, ρ)) ∧ (∀ (q0 : Nat) (M : ao_M) (ρ : ao_H) (y : Int32 × ao_S), fL_law L xs n 7 0 0 0 0 0 0 q0 0 0 0 M ρ = some y → y.1 = 1 → ao_W Γ uL_law room_1 (lq_Q Γ bS L xs) (ao_dc ρ y.2.2) (ao_ds ρ y.2.2) 7 [some (.ref bS), none, none, none, none, none, none] [.ref (Γ.2.2.2 + q0)] (M, ρ)) ∧ (∀ (r1 : Nat) (q0 : Nat) (M : ao_M) (ρ : ao_H) (y : Int32 × ao_S), fL_law L xs n 11 r1 0 0 0 0 0 q0 0 0 0 M ρ = some y → y.1 = 1 → ao_W Γ uL_law room_1 (lq_Q Γ bS L xs) (ao_dc ρ y.2.2) (ao_ds ρ y.2.2) 11 [some (.ref bS), some (.ref (Γ.2.2.2 + r1)), none, none, none, none, none] [.ref (Γ.2.2.2 + q0)] (M, ρ)) ∧ (∀ (r1 : Nat) (q0 : Nat) (M : ao_M) (ρ : ao_H) (y : Int32 × ao_S), fL_law L xs n 15 r1 0 0 0 0 0 q0 0 0 0 M ρ = some y → y.1 = 1 → ao_W Γ uL_law room_1 (lq_Q Γ bS L xs) (ao_dc ρ y.2.2) (ao_ds ρ y.2.2) 15 [some (.ref bS), some (.ref (Γ.2.2.2 + r1)), none, none, none, none, none] [.ref (Γ.2.2.2 + q0)] (M, ρ)) ∧ (∀ (r1 : Nat) (r2 : Nat) (q0 : Nat) (M : ao_M) (ρ : ao_H) (y : Int32 × ao_S), fL_law L xs n 19 r1 r2 0 0 0 0 q0 0 0 0 M ρ = some y → y.1 = 1 → ao_W Γ uL_law room_1 (lq_Q Γ bS L xs) (ao_dc ρ y.2.2) (ao_ds ρ y.2.2) 19 [some (.ref bS), some (.ref (Γ.2.2.2 + r1)), some (.ref (Γ.2.2.2 + r2)), none, none, none, none] [.ref (Γ.2.2.2 + q0)] (M, ρ)) ∧ (∀ (r1 : Nat) (r2 : Nat) (r3 : Nat) (x4 : Int32) (M : ao_M) (ρ : ao_H) (y : Int32 × ao_S), fL_law L xs n 23 r1 r2 r3 x4 0 0 0 0 0 0 M ρ = some y → y.1 = 1 → ao_W Γ uL_law room_1 (lq_Q Γ bS L xs) (ao_dc ρ y.2.2) (ao_ds ρ y.2.2) 23 [some (.ref bS), some (.ref (Γ.2.2.2 + r1)), some (.ref (Γ.2.2.2 + r2)), some (.ref (Γ.2.2.2 + r3)), some (.int x4), none, none] [] (M, ρ)) ∧ (∀ (r1 : Nat) (r2 : Nat) (r3 : Nat) (x4 : Int32) (s0 : Int32) (M : ao_M) (ρ : ao_H) (y : Int32 × ao_S), fL_law L xs n 159 r1 r2 r3 x4 0 0 0 s0 0 0 M ρ = some y → y.1 = 1 → ao_W Γ uL_law room_1 (lq_Q Γ bS L xs) (ao_dc ρ y.2.2) (ao_ds ρ y.2.2) 159 [some (.ref bS), some (.ref (Γ.2.2.2 + r1)), some (.ref (Γ.2.2.2 + r2)), some (.ref (Γ.2.2.2 + r3)), some (.int x4), none, none] [.int s0] (M, ρ)) ∧ (∀ (r1 : Nat) (r2 : Nat) (r3 : Nat) (x4 : Int32) (x5 : Int32) (x6 : Int32) (M : ao_M) (ρ : ao_H) (y : Int32 × ao_S), fL_law L xs n 225 r1 r2 r3 x4 x5 x6 0 0 0 0 M ρ = some y → y.1 = 1 → ao_W Γ uL_law room_1 (lq_Q Γ bS L xs) (ao_dc ρ y.2.2) (ao_ds ρ y.2.2) 225 [some (.ref bS), some (.ref (Γ.2.2.2 + r1)), some (.ref (Γ.2.2.2 + r2)), some (.ref (Γ.2.2.2 + r3)), some (.int x4), some (.int x5), some (.int x6)] [] (M, ρ)) ∧ (∀ (r1 : Nat) (r2 : Nat) (r3 : Nat) (x4 : Int32) (s0 : Int32) (M : ao_M) (ρ : ao_H) (y : Int32 × ao_S), fL_law L xs n 239 r1 r2 r3 x4 0 0 0 s0 0 0 M ρ = some y → y.1 = 1 → ao_W Γ uL_law room_1 (lq_Q Γ bS L xs) (ao_dc ρ y.2.2) (ao_ds ρ y.2.2) 239 [some (.ref bS), some (.ref (Γ.2.2.2 + r1)), some (.ref (Γ.2.2.2 + r2)), some (.ref (Γ.2.2.2 + r3)), some (.int x4), none, none] [.int s0] (M, ρ)) ∧ (∀ (r1 : Nat) (r2 : Nat) (r3 : Nat) (x4 : Int32) (x5 : Int32) (x6 : Int32) (M : ao_M) (ρ : ao_H) (y : Int32 × ao_S), fL_law L xs n 281 r1 r2 r3 x4 x5 x6 0 0 0 0 M ρ = some y → y.1 = 1 → ao_W Γ uL_law room_1 (lq_Q Γ bS L xs) (ao_dc ρ y.2.2) (ao_ds ρ y.2.2) 281 [some (.ref bS), some (.ref (Γ.2.2.2 + r1)), some (.ref (Γ.2.2.2 + r2)), some (.ref (Γ.2.2.2 + r3)), some (.int x4), some (.int x5), some (.int x6)] [] (M, ρ)) ∧ (∀ (r1 : Nat) (r2 : Nat) (r3 : Nat) (x4 : Int32) (s0 : Int32) (M : ao_M) (ρ : ao_H) (y : Int32 × ao_S), fL_law L xs n 294 r1 r2 r3 x4 0 0 0 s0 0 0 M ρ = some y → y.1 = 1 → ao_W Γ uL_law room_1 (lq_Q Γ bS L xs) (ao_dc ρ y.2.2) (ao_ds ρ y.2.2) 294 [some (.ref bS), some (.ref (Γ.2.2.2 + r1)), some (.ref (Γ.2.2.2 + r2)), some (.ref (Γ.2.2.2 + r3)), some (.int x4), none, none] [.int s0] (M, ρ)) ∧ (∀ (r1 : Nat) (r2 : Nat) (r3 : Nat) (x4 : Int32) (s0 : Int32) (M : ao_M) (ρ : ao_H) (y : Int32 × ao_S), fL_law L xs n 331 r1 r2 r3 x4 0 0 0 s0 0 0 M ρ = some y → y.1 = 1 → ao_W Γ uL_law room_1 (lq_Q Γ bS L xs) (ao_dc ρ y.2.2) (ao_ds ρ y.2.2) 331 [some (.ref bS), some (.ref (Γ.2.2.2 + r1)), some (.ref (Γ.2.2.2 + r2)), some (.ref (Γ.2.2.2 + r3)), some (.int x4), none, none] [.int s0] (M, ρ)) ∧ (∀ (r1 : Nat) (r2 : Nat) (r3 : Nat) (x4 : Int32) (x5 : Int32) (s0 : Int32) (M : ao_M) (ρ : ao_H) (y : Int32 × ao_S), fL_law L xs n 343 r1 r2 r3 x4 x5 0 0 s0 0 0 M ρ = some y → y.1 = 1 → ao_W Γ uL_law room_1 (lq_Q Γ bS L xs) (ao_dc ρ y.2.2) (ao_ds ρ y.2.2) 343 [some (.ref bS), some (.ref (Γ.2.2.2 + r1)), some (.ref (Γ.2.2.2 + r2)), some (.ref (Γ.2.2.2 + r3)), some (.int x4), some (.int x5), none] [.int s0] (M, ρ)) ∧ (∀ (r1 : Nat) (r2 : Nat) (r3 : Nat) (x4 : Int32) (x5 : Int32) (x6 : Int32) (M : ao_M) (ρ : ao_H) (y : Int32 × ao_S), fL_law L xs n 373 r1 r2 r3 x4 x5 x6 0 0 0 0 M ρ = some y → y.1 = 1 → ao_W Γ uL_law room_1 (lq_Q Γ bS L xs) (ao_dc ρ y.2.2) (ao_ds ρ y.2.2) 373 [some (.ref bS), some (.ref (Γ.2.2.2 + r1)), some (.ref (Γ.2.2.2 + r2)), some (.ref (Γ.2.2.2 + r3)), some (.int x4), some (.int x5), some (.int x6)] [] (M, ρ)) ∧ (∀ (r1 : Nat) (r2 : Nat) (r3 : Nat) (x4 : Int32) (s0 : Int32) (M : ao_M) (ρ : ao_H) (y : Int32 × ao_S), fL_law L xs n 406 r1 r2 r3 x4 0 0 0 s0 0 0 M ρ = some y → y.1 = 1 → ao_W Γ uL_law room_1 (lq_Q Γ bS L xs) (ao_dc ρ y.2.2) (ao_ds ρ y.2.2) 406 [some (.ref bS), some (.ref (Γ.2.2.2 + r1)), some (.ref (Γ.2.2.2 + r2)), some (.ref (Γ.2.2.2 + r3)), some (.int x4), none, none] [.int s0] (M, ρ)) ∧ (∀ (r1 : Nat) (r2 : Nat) (r3 : Nat) (x4 : Int32) (x5 : Int32) (s0 : Int32) (M : ao_M) (ρ : ao_H) (y : Int32 × ao_S), fL_law L xs n 424 r1 r2 r3 x4 x5 0 0 s0 0 0 M ρ = some y → y.1 = 1 → ao_W Γ uL_law room_1 (lq_Q Γ bS L xs) (ao_dc ρ y.2.2) (ao_ds ρ y.2.2) 424 [some (.ref bS), some (.ref (Γ.2.2.2 + r1)), some (.ref (Γ.2.2.2 + r2)), some (.ref (Γ.2.2.2 + r3)), some (.int x4), some (.int x5), none] [.int s0] (M, ρ)) ∧ (∀ (r1 : Nat) (r2 : Nat) (r3 : Nat) (x4 : Int32) (x5 : Int32) (x6 : Int32) (M : ao_M) (ρ : ao_H) (y : Int32 × ao_S), fL_law L xs n 454 r1 r2 r3 x4 x5 x6 0 0 0 0 M ρ = some y → y.1 = 1 → ao_W Γ uL_law room_1 (lq_Q Γ bS L xs) (ao_dc ρ y.2.2) (ao_ds ρ y.2.2) 454 [some (.ref bS), some (.ref (Γ.2.2.2 + r1)), some (.ref (Γ.2.2.2 + r2)), some (.ref (Γ.2.2.2 + r3)), some (.int x4), some (.int x5), some (.int x6)] [] (M, ρ)) ∧ (∀ (r1 : Nat) (r2 : Nat) (r3 : Nat) (x4 : Int32) (s0 : Int32) (M : ao_M) (ρ : ao_H) (y : Int32 × ao_S), fL_law L xs n 468 r1 r2 r3 x4 0 0 0 s0 0 0 M ρ = some y → y.1 = 1 → ao_W Γ uL_law room_1 (lq_Q Γ bS L xs) (ao_dc ρ y.2.2) (ao_ds ρ y.2.2) 468 [some (.ref bS), some (.ref (Γ.2.2.2 + r1)), some (.ref (Γ.2.2.2 + r2)), some (.ref (Γ.2.2.2 + r3)), some (.int x4), none, none] [.int s0] (M, ρ)) ∧ (∀ (r1 : Nat) (r2 : Nat) (r3 : Nat) (x4 : Int32) (x5 : Int32) (s0 : Int32) (M : ao_M) (ρ : ao_H) (y : Int32 × ao_S), fL_law L xs n 480 r1 r2 r3 x4 x5 0 0 s0 0 0 M ρ = some y → y.1 = 1 → ao_W Γ uL_law room_1 (lq_Q Γ bS L xs) (ao_dc ρ y.2.2) (ao_ds ρ y.2.2) 480 [some (.ref bS), some (.ref (Γ.2.2.2 + r1)), some (.ref (Γ.2.2.2 + r2)), some (.ref (Γ.2.2.2 + r3)), some (.int x4), some (.int x5), none] [.int s0] (M, ρ)) ∧ (∀ (r1 : Nat) (r2 : Nat) (r3 : Nat) (x4 : Int32) (x5 : Int32) (x6 : Int32) (M : ao_M) (ρ : ao_H) (y : Int32 × ao_S), fL_law L xs n 510 r1 r2 r3 x4 x5 x6 0 0 0 0 M ρ = some y → y.1 = 1 → ao_W Γ uL_law room_1 (lq_Q Γ bS L xs) (ao_dc ρ y.2.2) (ao_ds ρ y.2.2) 510 [some (.ref bS), some (.ref (Γ.2.2.2 + r1)), some (.ref (Γ.2.2.2 + r2)), some (.ref (Γ.2.2.2 + r3)), some (.int x4), some (.int x5), some (.int x6)] [] (M, ρ)) ∧ (∀ (r1 : Nat) (r2 : Nat) (r3 : Nat) (x4 : Int32) (s0 : Int32) (M : ao_M) (ρ : ao_H) (y : Int32 × ao_S), fL_law L xs n 524 r1 r2 r3 x4 0 0 0 s0 0 0 M ρ = some y → y.1 = 1 → ao_W Γ uL_law room_1 (lq_Q Γ bS L xs) (ao_dc ρ y.2.2) (ao_ds ρ y.2.2) 524 [some (.ref bS), some (.ref (Γ.2.2.2 + r1)), some (.ref (Γ.2.2.2 + r2)), some (.ref (Γ.2.2.2 + r3)), some (.int x4), none, none] [.int s0] (M, ρ)) ∧ (∀ (r1 : Nat) (r2 : Nat) (r3 : Nat) (x4 : Int32) (x5 : Int32) (s0 : Int32) (M : ao_M) (ρ : ao_H) (y : Int32 × ao_S), fL_law L xs n 536 r1 r2 r3 x4 x5 0 0 s0 0 0 M ρ = some y → y.1 = 1 → ao_W Γ uL_law room_1 (lq_Q Γ bS L xs) (ao_dc ρ y.2.2) (ao_ds ρ y.2.2) 536 [some (.ref bS), some (.ref (Γ.2.2.2 + r1)), some (.ref (Γ.2.2.2 + r2)), some (.ref (Γ.2.2.2 + r3)), some (.int x4), some (.int x5), none] [.int s0] (M, ρ)) ∧ (∀ (r1 : Nat) (r2 : Nat) (r3 : Nat) (x4 : Int32) (x5 : Int32) (x6 : Int32) (M : ao_M) (ρ : ao_H) (y : Int32 × ao_S), fL_law L xs n 566 r1 r2 r3 x4 x5 x6 0 0 0 0 M ρ = some y → y.1 = 1 → ao_W Γ uL_law room_1 (lq_Q Γ bS L xs) (ao_dc ρ y.2.2) (ao_ds ρ y.2.2) 566 [some (.ref bS), some (.ref (Γ.2.2.2 + r1)), some (.ref (Γ.2.2.2 + r2)), some (.ref (Γ.2.2.2 + r3)), some (.int x4), some (.int x5), some (.int x6)] [] (M, ρ)) ∧ (∀ (r1 : Nat) (r2 : Nat) (r3 : Nat) (x4 : Int32) (s0 : Int32) (M : ao_M) (ρ : ao_H) (y : Int32 × ao_S), fL_law L xs n 580 r1 r2 r3 x4 0 0 0 s0 0 0 M ρ = some y → y.1 = 1 → ao_W Γ uL_law room_1 (lq_Q Γ bS L xs) (ao_dc ρ y.2.2) (ao_ds ρ y.2.2) 580 [some (.ref bS), some (.ref (Γ.2.2.2 + r1)), some (.ref (Γ.2.2.2 + r2)), some (.ref (Γ.2.2.2 + r3)), some (.int x4), none, none] [.int s0] (M, ρ)) ∧ (∀ (r1 : Nat) (r2 : Nat) (r3 : Nat) (x4 : Int32) (x5 : Int32) (x6 : Int32) (M : ao_M) (ρ : ao_H) (y : Int32 × ao_S), fL_law L xs n 622 r1 r2 r3 x4 x5 x6 0 0 0 0 M ρ = some y → y.1 = 1 → ao_W Γ uL_law room_1 (lq_Q Γ bS L xs) (ao_dc ρ y.2.2) (ao_ds ρ y.2.2) 622 [some (.ref bS), some (.ref (Γ.2.2.2 + r1)), some (.ref (Γ.2.2.2 + r2)), some (.ref (Γ.2.2.2 + r3)), some (.int x4), some (.int x5), some (.int x6)] [] (M, ρ)) ∧ (∀ (r1 : Nat) (r2 : Nat) (r3 : Nat) (x4 : Int32) (s0 : Int32) (M : ao_M) (ρ : ao_H) (y : Int32 × ao_S), fL_law L xs n 642 r1 r2 r3 x4 0 0 0 s0 0 0 M ρ = some y → y.1 = 1 → ao_W Γ uL_law room_1 (lq_Q Γ bS L xs) (ao_dc ρ y.2.2) (ao_ds ρ y.2.2) 642 [some (.ref bS), some (.ref (Γ.2.2.2 + r1)), some (.ref (Γ.2.2.2 + r2)), some (.ref (Γ.2.2.2 + r3)), some (.int x4), none, none] [.int s0] (M, ρ)) ∧ (∀ (r1 : Nat) (r2 : Nat) (r3 : Nat) (x4 : Int32) (x5 : Int32) (x6 : Int32) (M : ao_M) (ρ : ao_H) (y : Int32 × ao_S), fL_law L xs n 690 r1 r2 r3 x4 x5 x6 0 0 0 0 M ρ = some y → y.1 = 1 → ao_W Γ uL_law room_1 (lq_Q Γ bS L xs) (ao_dc ρ y.2.2) (ao_ds ρ y.2.2) 690 [some (.ref bS), some (.ref (Γ.2.2.2 + r1)), some (.ref (Γ.2.2.2 + r2)), some (.ref (Γ.2.2.2 + r3)), some (.int x4), some (.int x5), some (.int x6)] [] (M, ρ)) ∧ (∀ (r1 : Nat) (r2 : Nat) (r3 : Nat) (x4 : Int32) (s0 : Int32) (M : ao_M) (ρ : ao_H) (y : Int32 × ao_S), fL_law L xs n 710 r1 r2 r3 x4 0 0 0 s0 0 0 M ρ = some y → y.1 = 1 → ao_W Γ uL_law room_1 (lq_Q Γ bS L xs) (ao_dc ρ y.2.2) (ao_ds ρ y.2.2) 710 [some (.ref bS), some (.ref (Γ.2.2.2 + r1)), some (.ref (Γ.2.2.2 + r2)), some (.ref (Γ.2.2.2 + r3)), some (.int x4), none, none] [.int s0] (M, ρ)) ∧ (∀ (r1 : Nat) (r2 : Nat) (r3 : Nat) (x4 : Int32) (x5 : Int32) (x6 : Int32) (M : ao_M) (ρ : ao_H) (y : Int32 × ao_S), fL_law L xs n 758 r1 r2 r3 x4 x5 x6 0 0 0 0 M ρ = some y → y.1 = 1 → ao_W Γ uL_law room_1 (lq_Q Γ bS L xs) (ao_dc ρ y.2.2) (ao_ds ρ y.2.2) 758 [some (.ref bS), some (.ref (Γ.2.2.2 + r1)), some (.ref (Γ.2.2.2 + r2)), some (.ref (Γ.2.2.2 + r3)), some (.int x4), some (.int x5), some (.int x6)] [] (M, ρ)) ∧ (∀ (r1 : Nat) (r2 : Nat) (r3 : Nat) (x4 : Int32) (s0 : Int32) (s1 : Int32) (q2 : Nat) (M : ao_M) (ρ : ao_H) (y : Int32 × ao_S), fL_law L xs n 782 r1 r2 r3 x4 0 0 0 s0 s1 q2 M ρ = some y → y.1 = 1 → ao_W Γ uL_law room_1 (lq_Q Γ bS L xs) (ao_dc ρ y.2.2) (ao_ds ρ y.2.2) 782 [some (.ref bS), some (.ref (Γ.2.2.2 + r1)), some (.ref (Γ.2.2.2 + r2)), some (.ref (Γ.2.2.2 + r3)), some (.int x4), none, none] [.int s0, .int s1, .ref (Γ.2.2.2 + q2)] (M, ρ)) ∧ (∀ (r1 : Nat) (r2 : Nat) (r3 : Nat) (x4 : Int32) (s0 : Int32) (M : ao_M) (ρ : ao_H) (y : Int32 × ao_S), fL_law L xs n 786 r1 r2 r3 x4 0 0 0 s0 0 0 M ρ = some y → y.1 = 1 → ao_W Γ uL_law room_1 (lq_Q Γ bS L xs) (ao_dc ρ y.2.2) (ao_ds ρ y.2.2) 786 [some (.ref bS), some (.ref (Γ.2.2.2 + r1)), some (.ref (Γ.2.2.2 + r2)), some (.ref (Γ.2.2.2 + r3)), some (.int x4), none, none] [.int s0] (M, ρ)) ∧ (∀ (r1 : Nat) (r2 : Nat) (r3 : Nat) (x4 : Int32) (x5 : Int32) (s0 : Int32) (s1 : Int32) (q2 : Nat) (M : ao_M) (ρ : ao_H) (y : Int32 × ao_S), fL_law L xs n 809 r1 r2 r3 x4 x5 0 0 s0 s1 q2 M ρ = some y → y.1 = 1 → ao_W Γ uL_law room_1 (lq_Q Γ bS L xs) (ao_dc ρ y.2.2) (ao_ds ρ y.2.2) 809 [some (.ref bS), some (.ref (Γ.2.2.2 + r1)), some (.ref (Γ.2.2.2 + r2)), some (.ref (Γ.2.2.2 + r3)), some (.int x4), some (.int x5), none] [.int s0, .int s1, .ref (Γ.2.2.2 + q2)] (M, ρ)) ∧ (∀ (r1 : Nat) (r2 : Nat) (r3 : Nat) (x4 : Int32) (x5 : Int32) (x6 : Int32) (M : ao_M) (ρ : ao_H) (y : Int32 × ao_S), fL_law L xs n 842 r1 r2 r3 x4 x5 x6 0 0 0 0 M ρ = some y → y.1 = 1 → ao_W Γ uL_law room_1 (lq_Q Γ bS L xs) (ao_dc ρ y.2.2) (ao_ds ρ y.2.2) 842 [some (.ref bS), some (.ref (Γ.2.2.2 + r1)), some (.ref (Γ.2.2.2 + r2)), some (.ref (Γ.2.2.2 + r3)), some (.int x4), some (.int x5), some (.int x6)] [] (M, ρ)) ∧ (∀ (r1 : Nat) (r2 : Nat) (r3 : Nat) (x4 : Int32) (s0 : Int32) (M : ao_M) (ρ : ao_H) (y : Int32 × ao_S), fL_law L xs n 862 r1 r2 r3 x4 0 0 0 s0 0 0 M ρ = some y → y.1 = 1 → ao_W Γ uL_law room_1 (lq_Q Γ bS L xs) (ao_dc ρ y.2.2) (ao_ds ρ y.2.2) 862 [some (.ref bS), some (.ref (Γ.2.2.2 + r1)), some (.ref (Γ.2.2.2 + r2)), some (.ref (Γ.2.2.2 + r3)), some (.int x4), none, none] [.int s0] (M, ρ)) ∧ (∀ (r1 : Nat) (r2 : Nat) (r3 : Nat) (x4 : Int32) (x5 : Int32) (x6 : Int32) (M : ao_M) (ρ : ao_H) (y : Int32 × ao_S), fL_law L xs n 910 r1 r2 r3 x4 x5 x6 0 0 0 0 M ρ = some y → y.1 = 1 → ao_W Γ uL_law room_1 (lq_Q Γ bS L xs) (ao_dc ρ y.2.2) (ao_ds ρ y.2.2) 910 [some (.ref bS), some (.ref (Γ.2.2.2 + r1)), some (.ref (Γ.2.2.2 + r2)), some (.ref (Γ.2.2.2 + r3)), some (.int x4), some (.int x5), some (.int x6)] [] (M, ρ)) ∧ (∀ (r1 : Nat) (r2 : Nat) (r3 : Nat) (x4 : Int32) (s0 : Int32) (M : ao_M) (ρ : ao_H) (y : Int32 × ao_S), fL_law L xs n 937 r1 r2 r3 x4 0 0 0 s0 0 0 M ρ = some y → y.1 = 1 → ao_W Γ uL_law room_1 (lq_Q Γ bS L xs) (ao_dc ρ y.2.2) (ao_ds ρ y.2.2) 937 [some (.ref bS), some (.ref (Γ.2.2.2 + r1)), some (.ref (Γ.2.2.2 + r2)), some (.ref (Γ.2.2.2 + r3)), some (.int x4), none, none] [.int s0] (M, ρ)) ∧ (∀ (r1 : Nat) (r2 : Nat) (r3 : Nat) (x4 : Int32) (x5 : Int32) (x6 : Int32) (M : ao_M) (ρ : ao_H) (y : Int32 × ao_S), fL_law L xs n 979 r1 r2 r3 x4 x5 x6 0 0 0 0 M ρ = some y → y.1 = 1 → ao_W Γ uL_law room_1 (lq_Q Γ bS L xs) (ao_dc ρ y.2.2) (ao_ds ρ y.2.2) 979 [some (.ref bS), some (.ref (Γ.2.2.2 + r1)), some (.ref (Γ.2.2.2 + r2)), some (.ref (Γ.2.2.2 + r3)), some (.int x4), some (.int x5), some (.int x6)] [] (M, ρ)) ∧ (∀ (r1 : Nat) (r2 : Nat) (r3 : Nat) (x4 : Int32) (s0 : Int32) (M : ao_M) (ρ : ao_H) (y : Int32 × ao_S), fL_law L xs n 999 r1 r2 r3 x4 0 0 0 s0 0 0 M ρ = some y → y.1 = 1 → ao_W Γ uL_law room_1 (lq_Q Γ bS L xs) (ao_dc ρ y.2.2) (ao_ds ρ y.2.2) 999 [some (.ref bS), some (.ref (Γ.2.2.2 + r1)), some (.ref (Γ.2.2.2 + r2)), some (.ref (Γ.2.2.2 + r3)), some (.int x4), none, none] [.int s0] (M, ρ)) ∧ (∀ (r1 : Nat) (r2 : Nat) (r3 : Nat) (x4 : Int32) (x5 : Int32) (x6 : Int32) (M : ao_M) (ρ : ao_H) (y : Int32 × ao_S), fL_law L xs n 1047 r1 r2 r3 x4 x5 x6 0 0 0 0 M ρ = some y → y.1 = 1 → ao_W Γ uL_law room_1 (lq_Q Γ bS L xs) (ao_dc ρ y.2.2) (ao_ds ρ y.2.2) 1047 [some (.ref bS), some (.ref (Γ.2.2.2 + r1)), some (.ref (Γ.2.2.2 + r2)), some (.ref (Γ.2.2.2 + r3)), some (.int x4), some (.int x5), some (.int x6)] [] (M, ρ)) ∧ (∀ (r1 : Nat) (r2 : Nat) (r3 : Nat) (x4 : Int32) (s0 : Int32) (M : ao_M) (ρ : ao_H) (y : Int32 × ao_S), fL_law L xs n 1061 r1 r2 r3 x4 0 0 0 s0 0 0 M ρ = some y → y.1 = 1 → ao_W Γ uL_law room_1 (lq_Q Γ bS L xs) (ao_dc ρ y.2.2) (ao_ds ρ y.2.2) 1061 [some (.ref bS), some (.ref (Γ.2.2.2 + r1)), some (.ref (Γ.2.2.2 + r2)), some (.ref (Γ.2.2.2 + r3)), some (.int x4), none, none] [.int s0] (M, ρ)) ∧ (∀ (r1 : Nat) (r2 : Nat) (r3 : Nat) (x4 : Int32) (x5 : Int32) (x6 : Int32) (M : ao_M) (ρ : ao_H) (y : Int32 × ao_S), fL_law L xs n 1103 r1 r2 r3 x4 x5 x6 0 0 0 0 M ρ = some y → y.1 = 1 → ao_W Γ uL_law room_1 (lq_Q Γ bS L xs) (ao_dc ρ y.2.2) (ao_ds ρ y.2.2) 1103 [some (.ref bS), some (.ref (Γ.2.2.2 + r1)), some (.ref (Γ.2.2.2 + r2)), some (.ref (Γ.2.2.2 + r3)), some (.int x4), some (.int x5), some (.int x6)] [] (M, ρ)) ∧ (∀ (r1 : Nat) (r2 : Nat) (r3 : Nat) (x4 : Int32) (M : ao_M) (ρ : ao_H) (y : Int32 × ao_S), fL_law L xs n 1106 r1 r2 r3 x4 0 0 0 0 0 0 M ρ = some y → y.1 = 1 → ao_W Γ uL_law room_1 (lq_Q Γ bS L xs) (ao_dc ρ y.2.2) (ao_ds ρ y.2.2) 1106 [some (.ref bS), some (.ref (Γ.2.2.2 + r1)), some (.ref (Γ.2.2.2 + r2)), some (.ref (Γ.2.2.2 + r3)), some (.int x4), none, none] [] (M, ρ)) := by
  intro n
  induction n with
  | zero => exact ⟨fun _ _ _ h _ => ao_no h, fun _ _ _ _ h _ => ao_no h, fun _ _ _ _ h _ => ao_no h, fun _ _ _ _ _ h _ => ao_no h, fun _ _ _ _ _ h _ => ao_no h, fun _ _ _ _ _ _ h _ => ao_no h, fun _ _ _ _ _ _ _ h _ => ao_no h, fun _ _ _ _ _ _ _ _ h _ => ao_no h, fun _ _ _ _ _ _ _ _ _ h _ => ao_no h, fun _ _ _ _ _ _ _ _ h _ => ao_no h, fun _ _ _ _ _ _ _ _ _ h _ => ao_no h, fun _ _ _ _ _ _ _ _ h _ => ao_no h, fun _ _ _ _ _ _ _ _ h _ => ao_no h, fun _ _ _ _ _ _ _ _ _ h _ => ao_no h, fun _ _ _ _ _ _ _ _ _ h _ => ao_no h, fun _ _ _ _ _ _ _ _ h _ => ao_no h, fun _ _ _ _ _ _ _ _ _ h _ => ao_no h, fun _ _ _ _ _ _ _ _ _ h _ => ao_no h, fun _ _ _ _ _ _ _ _ h _ => ao_no h, fun _ _ _ _ _ _ _ _ _ h _ => ao_no h, fun _ _ _ _ _ _ _ _ _ h _ => ao_no h, fun _ _ _ _ _ _ _ _ h _ => ao_no h, fun _ _ _ _ _ _ _ _ _ h _ => ao_no h, fun _ _ _ _ _ _ _ _ _ h _ => ao_no h, fun _ _ _ _ _ _ _ _ h _ => ao_no h, fun _ _ _ _ _ _ _ _ _ h _ => ao_no h, fun _ _ _ _ _ _ _ _ h _ => ao_no h, fun _ _ _ _ _ _ _ _ _ h _ => ao_no h, fun _ _ _ _ _ _ _ _ h _ => ao_no h, fun _ _ _ _ _ _ _ _ _ h _ => ao_no h, fun _ _ _ _ _ _ _ _ _ _ h _ => ao_no h, fun _ _ _ _ _ _ _ _ h _ => ao_no h, fun _ _ _ _ _ _ _ _ _ _ _ h _ => ao_no h, fun _ _ _ _ _ _ _ _ _ h _ => ao_no h, fun _ _ _ _ _ _ _ _ h _ => ao_no h, fun _ _ _ _ _ _ _ _ _ h _ => ao_no h, fun _ _ _ _ _ _ _ _ h _ => ao_no h, fun _ _ _ _ _ _ _ _ _ h _ => ao_no h, fun _ _ _ _ _ _ _ _ h _ => ao_no h, fun _ _ _ _ _ _ _ _ _ h _ => ao_no h, fun _ _ _ _ _ _ _ _ h _ => ao_no h, fun _ _ _ _ _ _ _ _ _ h _ => ao_no h, fun _ _ _ _ _ _ _ h _ => ao_no h⟩
  | succ n ih =>
    refine ⟨?_, ?_, ?_, ?_, ?_, ?_, ?_, ?_, ?_, ?_, ?_, ?_, ?_, ?_, ?_, ?_, ?_, ?_, ?_, ?_, ?_, ?_, ?_, ?_, ?_, ?_, ?_, ?_, ?_, ?_, ?_, ?_, ?_, ?_, ?_, ?_, ?_, ?_, ?_, ?_, ?_, ?_, ?_⟩
    · intro M ρ y h hy
      replace h := ao_ifT h rfl
      obtain ⟨n1, hn1, h⟩ := ao_bind h
      refine ba_new n1 10 (q := (RX10, TX10, 6)) dL_law_0 rfl hn1 lnw_L_8 (ao_dc_nw ((mL_law n).2.1 n1 (ao_zr M n1) (ao_nw ρ n1 20 0 6) _ h)) ?_
      exact ih.2.1 n1 (ao_zr M n1) (ao_nw ρ n1 20 0 6) _ h hy
    · intro q0 M ρ y h hy
      replace h := ao_ifF h (by decide)
      replace h := ao_ifT h rfl
      refine ao_dup dL_law_3 rfl ?_
      obtain ⟨p2, hp2, h⟩ := ao_bind h
      refine bi_callI q0 [] (aX10_init (d - 1) (by omega) n q0 M ρ hp2) dL_law_4 lc_L_67 li_X10_init rfl rfl rfl (Nat.le_of_ble_eq_true rfl) (lq_hR hd (by decide)) (ao_leC (me_X10_init n q0 M ρ hp2) ((mL_law n).2.2.1 q0 p2.1 p2.2 _ h)) (ao_leS (me_X10_init n q0 M ρ hp2) ((mL_law n).2.2.1 q0 p2.1 p2.2 _ h)) ?_
      exact ih.2.2.1 q0 p2.1 p2.2 _ h hy
    · intro q0 M ρ y h hy
      replace h := ao_ifF h (by decide)
      replace h := ao_ifF h (by decide)
      replace h := ao_ifT h rfl
      refine ao_astore_n 1 (lo' := [some (.ref bS), some (.ref (Γ.2.2.2 + q0)), none, none, none, none, none]) dL_law_7 rfl (Nat.le_of_ble_eq_true rfl) rfl ?_
      obtain ⟨n3, hn3, h⟩ := ao_bind h
      refine ba_new n3 12 (q := (RX12, TX12, 83)) dL_law_8 rfl hn3 lnw_L_68 (ao_dc_nw ((mL_law n).2.2.2.1 q0 n3 (ao_zr M n3) (ao_nw ρ n3 22 0 83) _ h)) ?_
      exact ih.2.2.2.1 q0 n3 (ao_zr M n3) (ao_nw ρ n3 22 0 83) _ h hy
    · intro r1 q0 M ρ y h hy
      replace h := ao_ifF h (by decide)
      replace h := ao_ifF h (by decide)
      replace h := ao_ifF h (by decide)
      replace h := ao_ifT h rfl
      refine ao_dup dL_law_11 rfl ?_
      obtain ⟨p4, hp4, h⟩ := ao_bind h
      refine bi_callI q0 [] (aX12_init (d - 1) (by omega) n q0 M ρ hp4) dL_law_12 lc_L_70 li_X12_init rfl rfl rfl (Nat.le_of_ble_eq_true rfl) (lq_hR hd (by decide)) (ao_leC (me_X12_init n q0 M ρ hp4) ((mL_law n).2.2.2.2.1 r1 q0 p4.1 p4.2 _ h)) (ao_leS (me_X12_init n q0 M ρ hp4) ((mL_law n).2.2.2.2.1 r1 q0 p4.1 p4.2 _ h)) ?_
      exact ih.2.2.2.2.1 r1 q0 p4.1 p4.2 _ h hy
    · intro r1 q0 M ρ y h hy
      replace h := ao_ifF h (by decide)
      replace h := ao_ifF h (by decide)
      replace h := ao_ifF h (by decide)
      replace h := ao_ifF h (by decide)
      replace h := ao_ifT h rfl
      refine ao_astore_n 2 (lo' := [some (.ref bS), some (.ref (Γ.2.2.2 + r1)), some (.ref (Γ.2.2.2 + q0)), none, none, none, none]) dL_law_15 rfl (Nat.le_of_ble_eq_true rfl) rfl ?_
      refine ao_iconst (v := 1) dL_law_16 (by decide) ?_
      obtain ⟨n5, hn5, h⟩ := ao_bind h
      obtain ⟨hb6, h⟩ := ao_some h
      refine ba_newa n5 3 dL_law_17 rfl (by decide) hn5 lna_3 hb6.1 hb6.2 (ao_dc_nw ((mL_law n).2.2.2.2.2.1 r1 q0 n5 (ao_zr M n5) (ao_nw ρ n5 3 (1 : Int32).toNatClampNeg (1 : Int32).toNatClampNeg) _ h)) ?_
      exact ih.2.2.2.2.2.1 r1 q0 n5 (ao_zr M n5) (ao_nw ρ n5 3 (1 : Int32).toNatClampNeg (1 : Int32).toNatClampNeg) _ h hy
    · intro r1 r2 q0 M ρ y h hy
      replace h := ao_ifF h (by decide)
      replace h := ao_ifF h (by decide)
      replace h := ao_ifF h (by decide)
      replace h := ao_ifF h (by decide)
      replace h := ao_ifF h (by decide)
      replace h := ao_ifT h rfl
      refine ao_astore_n 3 (lo' := [some (.ref bS), some (.ref (Γ.2.2.2 + r1)), some (.ref (Γ.2.2.2 + r2)), some (.ref (Γ.2.2.2 + q0)), none, none, none]) dL_law_19 rfl (Nat.le_of_ble_eq_true rfl) rfl ?_
      refine ao_iconst (v := 0) dL_law_20 (by decide) ?_
      refine ao_istore 4 (lo' := [some (.ref bS), some (.ref (Γ.2.2.2 + r1)), some (.ref (Γ.2.2.2 + r2)), some (.ref (Γ.2.2.2 + q0)), some (.int (0 : Int32)), none, none]) dL_law_21 (Nat.le_of_ble_eq_true rfl) rfl ?_
      exact ih.2.2.2.2.2.2.1 r1 r2 q0 (0 : Int32) M ρ _ h hy
    · intro r1 r2 r3 x4 M ρ y h hy
      replace h := ao_ifF h (by decide)
      replace h := ao_ifF h (by decide)
      replace h := ao_ifF h (by decide)
      replace h := ao_ifF h (by decide)
      replace h := ao_ifF h (by decide)
      replace h := ao_ifF h (by decide)
      replace h := ao_ifT h rfl
      refine ao_iload 4 dL_law_23 rfl ?_
      refine ao_aload_n 0 dL_law_25 rfl rfl ?_
      refine lq_slen dL_law_26 ?_
      refine ao_bipush (v := 6) dL_law_27 (by decide) ?_
      refine ao_isub dL_law_29 ?_
      refine ao_icmp_gt 1112 dL_law_30 (by decide) (fun c7 => ?_) (fun c7 => ?_)
      · replace h := ao_ifT h c7
        refine ao_iconst (v := 1) dL_law_1112 (by decide) ?_
        cases h
        exact lq_ret dL_law_1113
      · replace h := ao_ifF h c7
        refine ao_aload_n 0 dL_law_33 rfl rfl ?_
        refine ao_iload 4 dL_law_34 rfl ?_
        obtain ⟨hb8, h⟩ := ao_some h
        refine lq_sld dL_law_36 hb8 ?_
        refine ao_bipush (v := 31) dL_law_37 (by decide) ?_
        refine ao_iand dL_law_39 ?_
        refine an_topi (fun v9 hv9 => ?_)
        replace h := ao_letD h hv9
        by_cases c10 : v9 = (0 : Int32)
        · replace h := ao_ifT h c10
          refine ao_tableIn 124 dL_law_40 (by rw [c10]; decide) (by rw [c10]; decide) (by rw [c10]; rfl) (by decide) ?_
          refine ao_aload_n 1 dL_law_124 rfl rfl ?_
          refine ao_aload_n 0 dL_law_125 rfl rfl ?_
          refine ao_iload 4 dL_law_126 rfl ?_
          refine ao_iconst (v := 1) dL_law_128 (by decide) ?_
          refine ao_iadd dL_law_129 ?_
          obtain ⟨hb11, h⟩ := ao_some h
          refine lq_sld dL_law_130 hb11 ?_
          refine ao_aload_n 0 dL_law_131 rfl rfl ?_
          refine ao_iload 4 dL_law_132 rfl ?_
          refine ao_iconst (v := 2) dL_law_134 (by decide) ?_
          refine ao_iadd dL_law_135 ?_
          obtain ⟨hb12, h⟩ := ao_some h
          refine lq_sld dL_law_136 hb12 ?_
          refine ao_aload_n 0 dL_law_137 rfl rfl ?_
          refine ao_iload 4 dL_law_138 rfl ?_
          refine ao_iconst (v := 3) dL_law_140 (by decide) ?_
          refine ao_iadd dL_law_141 ?_
          obtain ⟨hb13, h⟩ := ao_some h
          refine lq_sld dL_law_142 hb13 ?_
          refine ao_aload_n 0 dL_law_143 rfl rfl ?_
          refine ao_iload 4 dL_law_144 rfl ?_
          refine ao_iconst (v := 4) dL_law_146 (by decide) ?_
          refine ao_iadd dL_law_147 ?_
          obtain ⟨hb14, h⟩ := ao_some h
          refine lq_sld dL_law_148 hb14 ?_
          refine ao_aload_n 0 dL_law_149 rfl rfl ?_
          refine ao_iload 4 dL_law_150 rfl ?_
          refine ao_iconst (v := 5) dL_law_152 (by decide) ?_
          refine ao_iadd dL_law_153 ?_
          obtain ⟨hb15, h⟩ := ao_some h
          refine lq_sld dL_law_154 hb15 ?_
          refine ao_aload_n 3 dL_law_155 rfl rfl ?_
          obtain ⟨p16, hp16, h⟩ := ao_bind h
          refine lq_callSi [.ref (Γ.2.2.2 + r1), .int (xs (x4 + (1 : Int32)).toNatClampNeg), .int (xs (x4 + (2 : Int32)).toNatClampNeg), .int (xs (x4 + (3 : Int32)).toNatClampNeg), .int (xs (x4 + (4 : Int32)).toNatClampNeg), .int (xs (x4 + (5 : Int32)).toNatClampNeg), .ref (Γ.2.2.2 + r3)] (aL_feed (d - 1) (by omega) n r1 (xs (x4 + (1 : Int32)).toNatClampNeg) (xs (x4 + (2 : Int32)).toNatClampNeg) (xs (x4 + (3 : Int32)).toNatClampNeg) (xs (x4 + (4 : Int32)).toNatClampNeg) (xs (x4 + (5 : Int32)).toNatClampNeg) r3 M ρ hp16) rfl dL_law_156 lh_L_71 lt_L_feed rfl rfl (Nat.le_of_ble_eq_true rfl) (lq_hR hd (by decide)) (ao_leC (me_L_feed n r1 (xs (x4 + (1 : Int32)).toNatClampNeg) (xs (x4 + (2 : Int32)).toNatClampNeg) (xs (x4 + (3 : Int32)).toNatClampNeg) (xs (x4 + (4 : Int32)).toNatClampNeg) (xs (x4 + (5 : Int32)).toNatClampNeg) r3 M ρ hp16) ((mL_law n).2.2.2.2.2.2.2.1 r1 r2 r3 x4 p16.1 p16.2.1 p16.2.2 _ h)) (ao_leS (me_L_feed n r1 (xs (x4 + (1 : Int32)).toNatClampNeg) (xs (x4 + (2 : Int32)).toNatClampNeg) (xs (x4 + (3 : Int32)).toNatClampNeg) (xs (x4 + (4 : Int32)).toNatClampNeg) (xs (x4 + (5 : Int32)).toNatClampNeg) r3 M ρ hp16) ((mL_law n).2.2.2.2.2.2.2.1 r1 r2 r3 x4 p16.1 p16.2.1 p16.2.2 _ h)) ?_
          exact ih.2.2.2.2.2.2.2.1 r1 r2 r3 x4 p16.1 p16.2.1 p16.2.2 _ h hy
        · replace h := ao_ifF h c10
          by_cases c17 : v9 = (1 : Int32)
          · replace h := ao_ifT h c17
            refine ao_tableIn 228 dL_law_40 (by rw [c17]; decide) (by rw [c17]; decide) (by rw [c17]; rfl) (by decide) ?_
            refine ao_aload_n 1 dL_law_228 rfl rfl ?_
            refine ao_aload_n 0 dL_law_229 rfl rfl ?_
            refine ao_iload 4 dL_law_230 rfl ?_
            refine ao_iconst (v := 1) dL_law_232 (by decide) ?_
            refine ao_iadd dL_law_233 ?_
            obtain ⟨hb18, h⟩ := ao_some h
            refine lq_sld dL_law_234 hb18 ?_
            refine ao_aload_n 3 dL_law_235 rfl rfl ?_
            obtain ⟨p19, hp19, h⟩ := ao_bind h
            refine lq_callSi [.ref (Γ.2.2.2 + r1), .int (xs (x4 + (1 : Int32)).toNatClampNeg), .ref (Γ.2.2.2 + r3)] (aL_end (d - 1) (by omega) n r1 (xs (x4 + (1 : Int32)).toNatClampNeg) r3 M ρ hp19) rfl dL_law_236 lh_L_81 lt_L_end rfl rfl (Nat.le_of_ble_eq_true rfl) (lq_hR hd (by decide)) (ao_leC (me_L_end n r1 (xs (x4 + (1 : Int32)).toNatClampNeg) r3 M ρ hp19) ((mL_law n).2.2.2.2.2.2.2.2.2.1 r1 r2 r3 x4 p19.1 p19.2.1 p19.2.2 _ h)) (ao_leS (me_L_end n r1 (xs (x4 + (1 : Int32)).toNatClampNeg) r3 M ρ hp19) ((mL_law n).2.2.2.2.2.2.2.2.2.1 r1 r2 r3 x4 p19.1 p19.2.1 p19.2.2 _ h)) ?_
            exact ih.2.2.2.2.2.2.2.2.2.1 r1 r2 r3 x4 p19.1 p19.2.1 p19.2.2 _ h hy
          · replace h := ao_ifF h c17
            by_cases c20 : v9 = (2 : Int32)
            · replace h := ao_ifT h c20
              refine ao_tableIn 284 dL_law_40 (by rw [c20]; decide) (by rw [c20]; decide) (by rw [c20]; rfl) (by decide) ?_
              refine ao_aload_n 1 dL_law_284 rfl rfl ?_
              refine ao_aload_n 0 dL_law_285 rfl rfl ?_
              refine ao_iload 4 dL_law_286 rfl ?_
              refine ao_iconst (v := 1) dL_law_288 (by decide) ?_
              refine ao_iadd dL_law_289 ?_
              obtain ⟨hb21, h⟩ := ao_some h
              refine lq_sld dL_law_290 hb21 ?_
              obtain ⟨p22, hp22, h⟩ := ao_bind h
              refine lq_callSi [.ref (Γ.2.2.2 + r1), .int (xs (x4 + (1 : Int32)).toNatClampNeg)] (aL_start (d - 1) (by omega) n r1 (xs (x4 + (1 : Int32)).toNatClampNeg) M ρ hp22) rfl dL_law_291 lh_L_85 lt_L_start rfl rfl (Nat.le_of_ble_eq_true rfl) (lq_hR hd (by decide)) (ao_leC (me_L_start n r1 (xs (x4 + (1 : Int32)).toNatClampNeg) M ρ hp22) ((mL_law n).2.2.2.2.2.2.2.2.2.2.2.1 r1 r2 r3 x4 p22.1 p22.2.1 p22.2.2 _ h)) (ao_leS (me_L_start n r1 (xs (x4 + (1 : Int32)).toNatClampNeg) M ρ hp22) ((mL_law n).2.2.2.2.2.2.2.2.2.2.2.1 r1 r2 r3 x4 p22.1 p22.2.1 p22.2.2 _ h)) ?_
              exact ih.2.2.2.2.2.2.2.2.2.2.2.1 r1 r2 r3 x4 p22.1 p22.2.1 p22.2.2 _ h hy
            · replace h := ao_ifF h c20
              by_cases c23 : v9 = (3 : Int32)
              · replace h := ao_ifT h c23
                refine ao_tableIn 320 dL_law_40 (by rw [c23]; decide) (by rw [c23]; decide) (by rw [c23]; rfl) (by decide) ?_
                refine ao_aload_n 1 dL_law_320 rfl rfl ?_
                refine ao_aload_n 0 dL_law_321 rfl rfl ?_
                refine ao_iload 4 dL_law_322 rfl ?_
                refine ao_iconst (v := 1) dL_law_324 (by decide) ?_
                refine ao_iadd dL_law_325 ?_
                obtain ⟨hb24, h⟩ := ao_some h
                refine lq_sld dL_law_326 hb24 ?_
                refine ao_aload_n 3 dL_law_327 rfl rfl ?_
                obtain ⟨p25, hp25, h⟩ := ao_bind h
                refine lq_callSi [.ref (Γ.2.2.2 + r1), .int (xs (x4 + (1 : Int32)).toNatClampNeg), .ref (Γ.2.2.2 + r3)] (aL_program (d - 1) (by omega) n r1 (xs (x4 + (1 : Int32)).toNatClampNeg) r3 M ρ hp25) rfl dL_law_328 lh_L_89 lt_L_program rfl rfl (Nat.le_of_ble_eq_true rfl) (lq_hR hd (by decide)) (ao_leC (me_L_program n r1 (xs (x4 + (1 : Int32)).toNatClampNeg) r3 M ρ hp25) ((mL_law n).2.2.2.2.2.2.2.2.2.2.2.2.1 r1 r2 r3 x4 p25.1 p25.2.1 p25.2.2 _ h)) (ao_leS (me_L_program n r1 (xs (x4 + (1 : Int32)).toNatClampNeg) r3 M ρ hp25) ((mL_law n).2.2.2.2.2.2.2.2.2.2.2.2.1 r1 r2 r3 x4 p25.1 p25.2.1 p25.2.2 _ h)) ?_
                exact ih.2.2.2.2.2.2.2.2.2.2.2.2.1 r1 r2 r3 x4 p25.1 p25.2.1 p25.2.2 _ h hy
              · replace h := ao_ifF h c23
                by_cases c26 : v9 = (4 : Int32)
                · replace h := ao_ifT h c26
                  refine ao_tableIn 376 dL_law_40 (by rw [c26]; decide) (by rw [c26]; decide) (by rw [c26]; rfl) (by decide) ?_
                  refine ao_aload_n 1 dL_law_376 rfl rfl ?_
                  obtain ⟨hk27, h⟩ := ao_some h
                  obtain ⟨p28, hp28, h⟩ := ao_bind h
                  refine an_callVi r1 10 (q := (RX10, TX10, 6)) [] (aX10_place (d - 1) (by omega) r1 M ρ hp28) dL_law_377 lc_L_92 li_X10_place ls_X10_place rfl hk27 rfl rfl (Nat.le_of_ble_eq_true rfl) (lq_hR hd (by decide)) ?_
                  refine ao_aload_n 2 dL_law_380 rfl rfl ?_
                  obtain ⟨hk29, h⟩ := ao_some h
                  obtain ⟨p30, hp30, h⟩ := ao_bind h
                  refine an_callVi r2 12 (q := (RX12, TX12, 83)) [] (aX12_place (d - 1) (by omega) r2 p28.2 ρ hp30) dL_law_381 lc_L_95 li_X12_place ls_X12_place rfl hk29 rfl rfl (Nat.le_of_ble_eq_true rfl) (lq_hR hd (by decide)) ?_
                  refine ao_icmp_eq 1106 dL_law_384 (by decide) (fun c31 => ?_) (fun c31 => ?_)
                  · replace h := ao_ifT h c31
                    exact ih.2.2.2.2.2.2.2.2.2.2.2.2.2.2.2.2.2.2.2.2.2.2.2.2.2.2.2.2.2.2.2.2.2.2.2.2.2.2.2.2.2.2 r1 r2 r3 x4 p30.2 ρ _ h hy
                  · replace h := ao_ifF h c31
                    refine ao_iconst (v := 0) dL_law_387 (by decide) ?_
                    cases h
                    exact absurd (show (0 : Int32) = 1 from hy) (by decide)
                · replace h := ao_ifF h c26
                  by_cases c32 : v9 = (5 : Int32)
                  · replace h := ao_ifT h c32
                    refine ao_tableIn 389 dL_law_40 (by rw [c32]; decide) (by rw [c32]; decide) (by rw [c32]; rfl) (by decide) ?_
                    refine ao_aload_n 1 dL_law_389 rfl rfl ?_
                    refine ao_aload_n 0 dL_law_390 rfl rfl ?_
                    refine ao_iload 4 dL_law_391 rfl ?_
                    refine ao_iconst (v := 1) dL_law_393 (by decide) ?_
                    refine ao_iadd dL_law_394 ?_
                    obtain ⟨hb33, h⟩ := ao_some h
                    refine lq_sld dL_law_395 hb33 ?_
                    refine ao_aload_n 0 dL_law_396 rfl rfl ?_
                    refine ao_iload 4 dL_law_397 rfl ?_
                    refine ao_iconst (v := 2) dL_law_399 (by decide) ?_
                    refine ao_iadd dL_law_400 ?_
                    obtain ⟨hb34, h⟩ := ao_some h
                    refine lq_sld dL_law_401 hb34 ?_
                    refine ao_aload_n 3 dL_law_402 rfl rfl ?_
                    obtain ⟨p35, hp35, h⟩ := ao_bind h
                    refine lq_callSi [.ref (Γ.2.2.2 + r1), .int (xs (x4 + (1 : Int32)).toNatClampNeg), .int (xs (x4 + (2 : Int32)).toNatClampNeg), .ref (Γ.2.2.2 + r3)] (aL_put (d - 1) (by omega) n r1 (xs (x4 + (1 : Int32)).toNatClampNeg) (xs (x4 + (2 : Int32)).toNatClampNeg) r3 M ρ hp35) rfl dL_law_403 lh_L_96 lt_L_put rfl rfl (Nat.le_of_ble_eq_true rfl) (lq_hR hd (by decide)) (ao_leC (me_L_put n r1 (xs (x4 + (1 : Int32)).toNatClampNeg) (xs (x4 + (2 : Int32)).toNatClampNeg) r3 M ρ hp35) ((mL_law n).2.2.2.2.2.2.2.2.2.2.2.2.2.2.2.1 r1 r2 r3 x4 p35.1 p35.2.1 p35.2.2 _ h)) (ao_leS (me_L_put n r1 (xs (x4 + (1 : Int32)).toNatClampNeg) (xs (x4 + (2 : Int32)).toNatClampNeg) r3 M ρ hp35) ((mL_law n).2.2.2.2.2.2.2.2.2.2.2.2.2.2.2.1 r1 r2 r3 x4 p35.1 p35.2.1 p35.2.2 _ h)) ?_
                    exact ih.2.2.2.2.2.2.2.2.2.2.2.2.2.2.2.1 r1 r2 r3 x4 p35.1 p35.2.1 p35.2.2 _ h hy
                  · replace h := ao_ifF h c32
                    by_cases c36 : v9 = (6 : Int32)
                    · replace h := ao_ifT h c36
                      refine ao_tableIn 457 dL_law_40 (by rw [c36]; decide) (by rw [c36]; decide) (by rw [c36]; rfl) (by decide) ?_
                      refine ao_aload_n 1 dL_law_457 rfl rfl ?_
                      refine ao_aload_n 0 dL_law_458 rfl rfl ?_
                      refine ao_iload 4 dL_law_459 rfl ?_
                      refine ao_iconst (v := 1) dL_law_461 (by decide) ?_
                      refine ao_iadd dL_law_462 ?_
                      obtain ⟨hb37, h⟩ := ao_some h
                      refine lq_sld dL_law_463 hb37 ?_
                      refine ao_aload_n 3 dL_law_464 rfl rfl ?_
                      obtain ⟨p38, hp38, h⟩ := ao_bind h
                      refine lq_callSi [.ref (Γ.2.2.2 + r1), .int (xs (x4 + (1 : Int32)).toNatClampNeg), .ref (Γ.2.2.2 + r3)] (aL_turn (d - 1) (by omega) n r1 (xs (x4 + (1 : Int32)).toNatClampNeg) r3 M ρ hp38) rfl dL_law_465 lh_L_100 lt_L_turn rfl rfl (Nat.le_of_ble_eq_true rfl) (lq_hR hd (by decide)) (ao_leC (me_L_turn n r1 (xs (x4 + (1 : Int32)).toNatClampNeg) r3 M ρ hp38) ((mL_law n).2.2.2.2.2.2.2.2.2.2.2.2.2.2.2.2.2.2.1 r1 r2 r3 x4 p38.1 p38.2.1 p38.2.2 _ h)) (ao_leS (me_L_turn n r1 (xs (x4 + (1 : Int32)).toNatClampNeg) r3 M ρ hp38) ((mL_law n).2.2.2.2.2.2.2.2.2.2.2.2.2.2.2.2.2.2.1 r1 r2 r3 x4 p38.1 p38.2.1 p38.2.2 _ h)) ?_
                      exact ih.2.2.2.2.2.2.2.2.2.2.2.2.2.2.2.2.2.2.1 r1 r2 r3 x4 p38.1 p38.2.1 p38.2.2 _ h hy
                    · replace h := ao_ifF h c36
                      by_cases c39 : v9 = (7 : Int32)
                      · replace h := ao_ifT h c39
                        refine ao_tableIn 513 dL_law_40 (by rw [c39]; decide) (by rw [c39]; decide) (by rw [c39]; rfl) (by decide) ?_
                        refine ao_aload_n 1 dL_law_513 rfl rfl ?_
                        refine ao_aload_n 0 dL_law_514 rfl rfl ?_
                        refine ao_iload 4 dL_law_515 rfl ?_
                        refine ao_iconst (v := 1) dL_law_517 (by decide) ?_
                        refine ao_iadd dL_law_518 ?_
                        obtain ⟨hb40, h⟩ := ao_some h
                        refine lq_sld dL_law_519 hb40 ?_
                        refine ao_aload_n 3 dL_law_520 rfl rfl ?_
                        obtain ⟨p41, hp41, h⟩ := ao_bind h
                        refine lq_callSi [.ref (Γ.2.2.2 + r1), .int (xs (x4 + (1 : Int32)).toNatClampNeg), .ref (Γ.2.2.2 + r3)] (aL_round (d - 1) (by omega) n r1 (xs (x4 + (1 : Int32)).toNatClampNeg) r3 M ρ hp41) rfl dL_law_521 lh_L_103 lt_L_round rfl rfl (Nat.le_of_ble_eq_true rfl) (lq_hR hd (by decide)) (ao_leC (me_L_round n r1 (xs (x4 + (1 : Int32)).toNatClampNeg) r3 M ρ hp41) ((mL_law n).2.2.2.2.2.2.2.2.2.2.2.2.2.2.2.2.2.2.2.2.2.1 r1 r2 r3 x4 p41.1 p41.2.1 p41.2.2 _ h)) (ao_leS (me_L_round n r1 (xs (x4 + (1 : Int32)).toNatClampNeg) r3 M ρ hp41) ((mL_law n).2.2.2.2.2.2.2.2.2.2.2.2.2.2.2.2.2.2.2.2.2.1 r1 r2 r3 x4 p41.1 p41.2.1 p41.2.2 _ h)) ?_
                        exact ih.2.2.2.2.2.2.2.2.2.2.2.2.2.2.2.2.2.2.2.2.2.1 r1 r2 r3 x4 p41.1 p41.2.1 p41.2.2 _ h hy
                      · replace h := ao_ifF h c39
                        by_cases c42 : v9 = (8 : Int32)
                        · replace h := ao_ifT h c42
                          refine ao_tableIn 569 dL_law_40 (by rw [c42]; decide) (by rw [c42]; decide) (by rw [c42]; rfl) (by decide) ?_
                          refine ao_aload_n 1 dL_law_569 rfl rfl ?_
                          refine ao_aload_n 0 dL_law_570 rfl rfl ?_
                          refine ao_iload 4 dL_law_571 rfl ?_
                          refine ao_iconst (v := 1) dL_law_573 (by decide) ?_
                          refine ao_iadd dL_law_574 ?_
                          obtain ⟨hb43, h⟩ := ao_some h
                          refine lq_sld dL_law_575 hb43 ?_
                          refine ao_aload_n 3 dL_law_576 rfl rfl ?_
                          obtain ⟨p44, hp44, h⟩ := ao_bind h
                          refine lq_callSi [.ref (Γ.2.2.2 + r1), .int (xs (x4 + (1 : Int32)).toNatClampNeg), .ref (Γ.2.2.2 + r3)] (aL_has (d - 1) (by omega) n r1 (xs (x4 + (1 : Int32)).toNatClampNeg) r3 M ρ hp44) rfl dL_law_577 lh_L_106 lt_L_has rfl rfl (Nat.le_of_ble_eq_true rfl) (lq_hR hd (by decide)) (ao_leC (me_L_has n r1 (xs (x4 + (1 : Int32)).toNatClampNeg) r3 M ρ hp44) ((mL_law n).2.2.2.2.2.2.2.2.2.2.2.2.2.2.2.2.2.2.2.2.2.2.2.2.1 r1 r2 r3 x4 p44.1 p44.2.1 p44.2.2 _ h)) (ao_leS (me_L_has n r1 (xs (x4 + (1 : Int32)).toNatClampNeg) r3 M ρ hp44) ((mL_law n).2.2.2.2.2.2.2.2.2.2.2.2.2.2.2.2.2.2.2.2.2.2.2.2.1 r1 r2 r3 x4 p44.1 p44.2.1 p44.2.2 _ h)) ?_
                          exact ih.2.2.2.2.2.2.2.2.2.2.2.2.2.2.2.2.2.2.2.2.2.2.2.2.1 r1 r2 r3 x4 p44.1 p44.2.1 p44.2.2 _ h hy
                        · replace h := ao_ifF h c42
                          by_cases c45 : v9 = (9 : Int32)
                          · replace h := ao_ifT h c45
                            refine ao_tableIn 625 dL_law_40 (by rw [c45]; decide) (by rw [c45]; decide) (by rw [c45]; rfl) (by decide) ?_
                            refine ao_aload_n 1 dL_law_625 rfl rfl ?_
                            refine ao_aload_n 0 dL_law_626 rfl rfl ?_
                            refine ao_iload 4 dL_law_627 rfl ?_
                            refine ao_iconst (v := 1) dL_law_629 (by decide) ?_
                            refine ao_iadd dL_law_630 ?_
                            obtain ⟨hb46, h⟩ := ao_some h
                            refine lq_sld dL_law_631 hb46 ?_
                            refine ao_aload_n 0 dL_law_632 rfl rfl ?_
                            refine ao_iload 4 dL_law_633 rfl ?_
                            refine ao_iconst (v := 2) dL_law_635 (by decide) ?_
                            refine ao_iadd dL_law_636 ?_
                            obtain ⟨hb47, h⟩ := ao_some h
                            refine lq_sld dL_law_637 hb47 ?_
                            refine ao_aload_n 3 dL_law_638 rfl rfl ?_
                            obtain ⟨p48, hp48, h⟩ := ao_bind h
                            refine lq_callSi [.ref (Γ.2.2.2 + r1), .int (xs (x4 + (1 : Int32)).toNatClampNeg), .int (xs (x4 + (2 : Int32)).toNatClampNeg), .ref (Γ.2.2.2 + r3)] (aL_had (d - 1) (by omega) n r1 (xs (x4 + (1 : Int32)).toNatClampNeg) (xs (x4 + (2 : Int32)).toNatClampNeg) r3 M ρ hp48) rfl dL_law_639 lh_L_109 lt_L_had rfl rfl (Nat.le_of_ble_eq_true rfl) (lq_hR hd (by decide)) (ao_leC (me_L_had n r1 (xs (x4 + (1 : Int32)).toNatClampNeg) (xs (x4 + (2 : Int32)).toNatClampNeg) r3 M ρ hp48) ((mL_law n).2.2.2.2.2.2.2.2.2.2.2.2.2.2.2.2.2.2.2.2.2.2.2.2.2.2.1 r1 r2 r3 x4 p48.1 p48.2.1 p48.2.2 _ h)) (ao_leS (me_L_had n r1 (xs (x4 + (1 : Int32)).toNatClampNeg) (xs (x4 + (2 : Int32)).toNatClampNeg) r3 M ρ hp48) ((mL_law n).2.2.2.2.2.2.2.2.2.2.2.2.2.2.2.2.2.2.2.2.2.2.2.2.2.2.1 r1 r2 r3 x4 p48.1 p48.2.1 p48.2.2 _ h)) ?_
                            exact ih.2.2.2.2.2.2.2.2.2.2.2.2.2.2.2.2.2.2.2.2.2.2.2.2.2.2.1 r1 r2 r3 x4 p48.1 p48.2.1 p48.2.2 _ h hy
                          · replace h := ao_ifF h c45
                            by_cases c49 : v9 = (10 : Int32)
                            · replace h := ao_ifT h c49
                              refine ao_tableIn 693 dL_law_40 (by rw [c49]; decide) (by rw [c49]; decide) (by rw [c49]; rfl) (by decide) ?_
                              refine ao_aload_n 1 dL_law_693 rfl rfl ?_
                              refine ao_aload_n 0 dL_law_694 rfl rfl ?_
                              refine ao_iload 4 dL_law_695 rfl ?_
                              refine ao_iconst (v := 1) dL_law_697 (by decide) ?_
                              refine ao_iadd dL_law_698 ?_
                              obtain ⟨hb50, h⟩ := ao_some h
                              refine lq_sld dL_law_699 hb50 ?_
                              refine ao_aload_n 0 dL_law_700 rfl rfl ?_
                              refine ao_iload 4 dL_law_701 rfl ?_
                              refine ao_iconst (v := 2) dL_law_703 (by decide) ?_
                              refine ao_iadd dL_law_704 ?_
                              obtain ⟨hb51, h⟩ := ao_some h
                              refine lq_sld dL_law_705 hb51 ?_
                              refine ao_aload_n 3 dL_law_706 rfl rfl ?_
                              obtain ⟨p52, hp52, h⟩ := ao_bind h
                              refine lq_callSi [.ref (Γ.2.2.2 + r1), .int (xs (x4 + (1 : Int32)).toNatClampNeg), .int (xs (x4 + (2 : Int32)).toNatClampNeg), .ref (Γ.2.2.2 + r3)] (aL_register (d - 1) (by omega) n r1 (xs (x4 + (1 : Int32)).toNatClampNeg) (xs (x4 + (2 : Int32)).toNatClampNeg) r3 M ρ hp52) rfl dL_law_707 lh_L_112 lt_L_register rfl rfl (Nat.le_of_ble_eq_true rfl) (lq_hR hd (by decide)) (ao_leC (me_L_register n r1 (xs (x4 + (1 : Int32)).toNatClampNeg) (xs (x4 + (2 : Int32)).toNatClampNeg) r3 M ρ hp52) ((mL_law n).2.2.2.2.2.2.2.2.2.2.2.2.2.2.2.2.2.2.2.2.2.2.2.2.2.2.2.2.1 r1 r2 r3 x4 p52.1 p52.2.1 p52.2.2 _ h)) (ao_leS (me_L_register n r1 (xs (x4 + (1 : Int32)).toNatClampNeg) (xs (x4 + (2 : Int32)).toNatClampNeg) r3 M ρ hp52) ((mL_law n).2.2.2.2.2.2.2.2.2.2.2.2.2.2.2.2.2.2.2.2.2.2.2.2.2.2.2.2.1 r1 r2 r3 x4 p52.1 p52.2.1 p52.2.2 _ h)) ?_
                              exact ih.2.2.2.2.2.2.2.2.2.2.2.2.2.2.2.2.2.2.2.2.2.2.2.2.2.2.2.2.1 r1 r2 r3 x4 p52.1 p52.2.1 p52.2.2 _ h hy
                            · replace h := ao_ifF h c49
                              by_cases c53 : v9 = (11 : Int32)
                              · replace h := ao_ifT h c53
                                refine ao_tableIn 761 dL_law_40 (by rw [c53]; decide) (by rw [c53]; decide) (by rw [c53]; rfl) (by decide) ?_
                                refine ao_aload_n 1 dL_law_761 rfl rfl ?_
                                refine ao_aload_n 0 dL_law_762 rfl rfl ?_
                                refine ao_iload 4 dL_law_763 rfl ?_
                                refine ao_iconst (v := 1) dL_law_765 (by decide) ?_
                                refine ao_iadd dL_law_766 ?_
                                obtain ⟨hb54, h⟩ := ao_some h
                                refine lq_sld dL_law_767 hb54 ?_
                                refine ao_aload_n 0 dL_law_768 rfl rfl ?_
                                refine ao_iload 4 dL_law_769 rfl ?_
                                refine ao_iconst (v := 2) dL_law_771 (by decide) ?_
                                refine ao_iadd dL_law_772 ?_
                                obtain ⟨hb55, h⟩ := ao_some h
                                refine lq_sld dL_law_773 hb55 ?_
                                refine ao_if_eq 781 dL_law_774 (by decide) (fun c56 => ?_) (fun c56 => ?_)
                                · replace h := ao_ifT h c56
                                  refine ao_iconst (v := 0) dL_law_781 (by decide) ?_
                                  exact ih.2.2.2.2.2.2.2.2.2.2.2.2.2.2.2.2.2.2.2.2.2.2.2.2.2.2.2.2.2.2.1 r1 r2 r3 x4 (0 : Int32) (xs (x4 + (1 : Int32)).toNatClampNeg) r1 M ρ _ h hy
                                · replace h := ao_ifF h c56
                                  refine ao_iconst (v := 1) dL_law_777 (by decide) ?_
                                  refine ao_goto 782 dL_law_778 (by decide) ?_
                                  exact ih.2.2.2.2.2.2.2.2.2.2.2.2.2.2.2.2.2.2.2.2.2.2.2.2.2.2.2.2.2.2.1 r1 r2 r3 x4 (1 : Int32) (xs (x4 + (1 : Int32)).toNatClampNeg) r1 M ρ _ h hy
                              · replace h := ao_ifF h c53
                                by_cases c57 : v9 = (12 : Int32)
                                · replace h := ao_ifT h c57
                                  refine ao_tableIn 845 dL_law_40 (by rw [c57]; decide) (by rw [c57]; decide) (by rw [c57]; rfl) (by decide) ?_
                                  refine ao_aload_n 1 dL_law_845 rfl rfl ?_
                                  refine ao_aload_n 0 dL_law_846 rfl rfl ?_
                                  refine ao_iload 4 dL_law_847 rfl ?_
                                  refine ao_iconst (v := 1) dL_law_849 (by decide) ?_
                                  refine ao_iadd dL_law_850 ?_
                                  obtain ⟨hb58, h⟩ := ao_some h
                                  refine lq_sld dL_law_851 hb58 ?_
                                  refine ao_aload_n 0 dL_law_852 rfl rfl ?_
                                  refine ao_iload 4 dL_law_853 rfl ?_
                                  refine ao_iconst (v := 2) dL_law_855 (by decide) ?_
                                  refine ao_iadd dL_law_856 ?_
                                  obtain ⟨hb59, h⟩ := ao_some h
                                  refine lq_sld dL_law_857 hb59 ?_
                                  refine ao_aload_n 3 dL_law_858 rfl rfl ?_
                                  obtain ⟨p60, hp60, h⟩ := ao_bind h
                                  refine lq_callSi [.ref (Γ.2.2.2 + r1), .int (xs (x4 + (1 : Int32)).toNatClampNeg), .int (xs (x4 + (2 : Int32)).toNatClampNeg), .ref (Γ.2.2.2 + r3)] (aL_look (d - 1) (by omega) n r1 (xs (x4 + (1 : Int32)).toNatClampNeg) (xs (x4 + (2 : Int32)).toNatClampNeg) r3 M ρ hp60) rfl dL_law_859 lh_L_119 lt_L_look rfl rfl (Nat.le_of_ble_eq_true rfl) (lq_hR hd (by decide)) (ao_leC (me_L_look n r1 (xs (x4 + (1 : Int32)).toNatClampNeg) (xs (x4 + (2 : Int32)).toNatClampNeg) r3 M ρ hp60) ((mL_law n).2.2.2.2.2.2.2.2.2.2.2.2.2.2.2.2.2.2.2.2.2.2.2.2.2.2.2.2.2.2.2.2.2.2.1 r1 r2 r3 x4 p60.1 p60.2.1 p60.2.2 _ h)) (ao_leS (me_L_look n r1 (xs (x4 + (1 : Int32)).toNatClampNeg) (xs (x4 + (2 : Int32)).toNatClampNeg) r3 M ρ hp60) ((mL_law n).2.2.2.2.2.2.2.2.2.2.2.2.2.2.2.2.2.2.2.2.2.2.2.2.2.2.2.2.2.2.2.2.2.2.1 r1 r2 r3 x4 p60.1 p60.2.1 p60.2.2 _ h)) ?_
                                  exact ih.2.2.2.2.2.2.2.2.2.2.2.2.2.2.2.2.2.2.2.2.2.2.2.2.2.2.2.2.2.2.2.2.2.2.1 r1 r2 r3 x4 p60.1 p60.2.1 p60.2.2 _ h hy
                                · replace h := ao_ifF h c57
                                  by_cases c61 : v9 = (13 : Int32)
                                  · replace h := ao_ifT h c61
                                    refine ao_tableIn 913 dL_law_40 (by rw [c61]; decide) (by rw [c61]; decide) (by rw [c61]; rfl) (by decide) ?_
                                    refine ao_aload_n 1 dL_law_913 rfl rfl ?_
                                    obtain ⟨hk62, h⟩ := ao_some h
                                    obtain ⟨p63, hp63, h⟩ := ao_bind h
                                    refine an_callVi r1 10 (q := (RX10, TX10, 6)) [] (aX10_judge (d - 1) (by omega) _ r1 M ρ hp63) dL_law_914 lc_L_122 li_X10_judge ls_X10_judge rfl hk62 rfl rfl (Nat.le_of_ble_eq_true rfl) (lq_hR hd (by decide)) ?_
                                    refine ao_aload_n 2 dL_law_917 rfl rfl ?_
                                    obtain ⟨hk64, h⟩ := ao_some h
                                    obtain ⟨p65, hp65, h⟩ := ao_bind h
                                    refine an_callVi r2 12 (q := (RX12, TX12, 83)) [] (aX12_judge (d - 1) (by omega) _ r2 p63.2 ρ hp65) dL_law_918 lc_L_125 li_X12_judge ls_X12_judge rfl hk64 rfl rfl (Nat.le_of_ble_eq_true rfl) (lq_hR hd (by decide)) ?_
                                    refine ao_icmp_eq 1106 dL_law_921 (by decide) (fun c66 => ?_) (fun c66 => ?_)
                                    · replace h := ao_ifT h c66
                                      exact ih.2.2.2.2.2.2.2.2.2.2.2.2.2.2.2.2.2.2.2.2.2.2.2.2.2.2.2.2.2.2.2.2.2.2.2.2.2.2.2.2.2.2 r1 r2 r3 x4 p65.2 ρ _ h hy
                                    · replace h := ao_ifF h c66
                                      refine ao_iconst (v := 0) dL_law_924 (by decide) ?_
                                      cases h
                                      exact absurd (show (0 : Int32) = 1 from hy) (by decide)
                                  · replace h := ao_ifF h c61
                                    by_cases c67 : v9 = (14 : Int32)
                                    · replace h := ao_ifT h c67
                                      refine ao_tableIn 926 dL_law_40 (by rw [c67]; decide) (by rw [c67]; decide) (by rw [c67]; rfl) (by decide) ?_
                                      refine ao_aload_n 1 dL_law_926 rfl rfl ?_
                                      refine ao_aload_n 0 dL_law_927 rfl rfl ?_
                                      refine ao_iload 4 dL_law_928 rfl ?_
                                      refine ao_iconst (v := 1) dL_law_930 (by decide) ?_
                                      refine ao_iadd dL_law_931 ?_
                                      obtain ⟨hb68, h⟩ := ao_some h
                                      refine lq_sld dL_law_932 hb68 ?_
                                      refine ao_aload_n 3 dL_law_933 rfl rfl ?_
                                      obtain ⟨p69, hp69, h⟩ := ao_bind h
                                      refine lq_callSi [.ref (Γ.2.2.2 + r1), .int (xs (x4 + (1 : Int32)).toNatClampNeg), .ref (Γ.2.2.2 + r3)] (aL_order (d - 1) (by omega) n r1 (xs (x4 + (1 : Int32)).toNatClampNeg) r3 M ρ hp69) rfl dL_law_934 lh_L_126 lt_L_order rfl rfl (Nat.le_of_ble_eq_true rfl) (lq_hR hd (by decide)) (ao_leC (me_L_order n r1 (xs (x4 + (1 : Int32)).toNatClampNeg) r3 M ρ hp69) ((mL_law n).2.2.2.2.2.2.2.2.2.2.2.2.2.2.2.2.2.2.2.2.2.2.2.2.2.2.2.2.2.2.2.2.2.2.2.2.1 r1 r2 r3 x4 p69.1 p69.2.1 p69.2.2 _ h)) (ao_leS (me_L_order n r1 (xs (x4 + (1 : Int32)).toNatClampNeg) r3 M ρ hp69) ((mL_law n).2.2.2.2.2.2.2.2.2.2.2.2.2.2.2.2.2.2.2.2.2.2.2.2.2.2.2.2.2.2.2.2.2.2.2.2.1 r1 r2 r3 x4 p69.1 p69.2.1 p69.2.2 _ h)) ?_
                                      exact ih.2.2.2.2.2.2.2.2.2.2.2.2.2.2.2.2.2.2.2.2.2.2.2.2.2.2.2.2.2.2.2.2.2.2.2.2.1 r1 r2 r3 x4 p69.1 p69.2.1 p69.2.2 _ h hy
                                    · replace h := ao_ifF h c67
                                      by_cases c70 : v9 = (15 : Int32)
                                      · replace h := ao_ifT h c70
                                        refine ao_tableIn 982 dL_law_40 (by rw [c70]; decide) (by rw [c70]; decide) (by rw [c70]; rfl) (by decide) ?_
                                        refine ao_aload_n 1 dL_law_982 rfl rfl ?_
                                        refine ao_aload_n 0 dL_law_983 rfl rfl ?_
                                        refine ao_iload 4 dL_law_984 rfl ?_
                                        refine ao_iconst (v := 1) dL_law_986 (by decide) ?_
                                        refine ao_iadd dL_law_987 ?_
                                        obtain ⟨hb71, h⟩ := ao_some h
                                        refine lq_sld dL_law_988 hb71 ?_
                                        refine ao_aload_n 0 dL_law_989 rfl rfl ?_
                                        refine ao_iload 4 dL_law_990 rfl ?_
                                        refine ao_iconst (v := 2) dL_law_992 (by decide) ?_
                                        refine ao_iadd dL_law_993 ?_
                                        obtain ⟨hb72, h⟩ := ao_some h
                                        refine lq_sld dL_law_994 hb72 ?_
                                        refine ao_aload_n 3 dL_law_995 rfl rfl ?_
                                        obtain ⟨p73, hp73, h⟩ := ao_bind h
                                        refine lq_callSi [.ref (Γ.2.2.2 + r1), .int (xs (x4 + (1 : Int32)).toNatClampNeg), .int (xs (x4 + (2 : Int32)).toNatClampNeg), .ref (Γ.2.2.2 + r3)] (aL_record (d - 1) (by omega) n r1 (xs (x4 + (1 : Int32)).toNatClampNeg) (xs (x4 + (2 : Int32)).toNatClampNeg) r3 M ρ hp73) rfl dL_law_996 lh_L_129 lt_L_record rfl rfl (Nat.le_of_ble_eq_true rfl) (lq_hR hd (by decide)) (ao_leC (me_L_record n r1 (xs (x4 + (1 : Int32)).toNatClampNeg) (xs (x4 + (2 : Int32)).toNatClampNeg) r3 M ρ hp73) ((mL_law n).2.2.2.2.2.2.2.2.2.2.2.2.2.2.2.2.2.2.2.2.2.2.2.2.2.2.2.2.2.2.2.2.2.2.2.2.2.2.1 r1 r2 r3 x4 p73.1 p73.2.1 p73.2.2 _ h)) (ao_leS (me_L_record n r1 (xs (x4 + (1 : Int32)).toNatClampNeg) (xs (x4 + (2 : Int32)).toNatClampNeg) r3 M ρ hp73) ((mL_law n).2.2.2.2.2.2.2.2.2.2.2.2.2.2.2.2.2.2.2.2.2.2.2.2.2.2.2.2.2.2.2.2.2.2.2.2.2.2.1 r1 r2 r3 x4 p73.1 p73.2.1 p73.2.2 _ h)) ?_
                                        exact ih.2.2.2.2.2.2.2.2.2.2.2.2.2.2.2.2.2.2.2.2.2.2.2.2.2.2.2.2.2.2.2.2.2.2.2.2.2.2.1 r1 r2 r3 x4 p73.1 p73.2.1 p73.2.2 _ h hy
                                      · replace h := ao_ifF h c70
                                        by_cases c74 : v9 = (16 : Int32)
                                        · replace h := ao_ifT h c74
                                          refine ao_tableIn 1050 dL_law_40 (by rw [c74]; decide) (by rw [c74]; decide) (by rw [c74]; rfl) (by decide) ?_
                                          refine ao_aload_n 1 dL_law_1050 rfl rfl ?_
                                          refine ao_aload_n 0 dL_law_1051 rfl rfl ?_
                                          refine ao_iload 4 dL_law_1052 rfl ?_
                                          refine ao_iconst (v := 1) dL_law_1054 (by decide) ?_
                                          refine ao_iadd dL_law_1055 ?_
                                          obtain ⟨hb75, h⟩ := ao_some h
                                          refine lq_sld dL_law_1056 hb75 ?_
                                          refine ao_aload_n 3 dL_law_1057 rfl rfl ?_
                                          obtain ⟨p76, hp76, h⟩ := ao_bind h
                                          refine lq_callSi [.ref (Γ.2.2.2 + r1), .int (xs (x4 + (1 : Int32)).toNatClampNeg), .ref (Γ.2.2.2 + r3)] (aL_count (d - 1) (by omega) n r1 (xs (x4 + (1 : Int32)).toNatClampNeg) r3 M ρ hp76) rfl dL_law_1058 lh_L_132 lt_L_count rfl rfl (Nat.le_of_ble_eq_true rfl) (lq_hR hd (by decide)) (ao_leC (me_L_count n r1 (xs (x4 + (1 : Int32)).toNatClampNeg) r3 M ρ hp76) ((mL_law n).2.2.2.2.2.2.2.2.2.2.2.2.2.2.2.2.2.2.2.2.2.2.2.2.2.2.2.2.2.2.2.2.2.2.2.2.2.2.2.2.1 r1 r2 r3 x4 p76.1 p76.2.1 p76.2.2 _ h)) (ao_leS (me_L_count n r1 (xs (x4 + (1 : Int32)).toNatClampNeg) r3 M ρ hp76) ((mL_law n).2.2.2.2.2.2.2.2.2.2.2.2.2.2.2.2.2.2.2.2.2.2.2.2.2.2.2.2.2.2.2.2.2.2.2.2.2.2.2.2.1 r1 r2 r3 x4 p76.1 p76.2.1 p76.2.2 _ h)) ?_
                                          exact ih.2.2.2.2.2.2.2.2.2.2.2.2.2.2.2.2.2.2.2.2.2.2.2.2.2.2.2.2.2.2.2.2.2.2.2.2.2.2.2.2.1 r1 r2 r3 x4 p76.1 p76.2.1 p76.2.2 _ h hy
                                        · replace h := ao_ifF h c74
                                          refine ao_tableOut 1106 dL_law_40 (by have nc10 := ao_ne (z := 0) c10 (by decide); have nc17 := ao_ne (z := 1) c17 (by decide); have nc20 := ao_ne (z := 2) c20 (by decide); have nc23 := ao_ne (z := 3) c23 (by decide); have nc26 := ao_ne (z := 4) c26 (by decide); have nc32 := ao_ne (z := 5) c32 (by decide); have nc36 := ao_ne (z := 6) c36 (by decide); have nc39 := ao_ne (z := 7) c39 (by decide); have nc42 := ao_ne (z := 8) c42 (by decide); have nc45 := ao_ne (z := 9) c45 (by decide); have nc49 := ao_ne (z := 10) c49 (by decide); have nc53 := ao_ne (z := 11) c53 (by decide); have nc57 := ao_ne (z := 12) c57 (by decide); have nc61 := ao_ne (z := 13) c61 (by decide); have nc67 := ao_ne (z := 14) c67 (by decide); have nc70 := ao_ne (z := 15) c70 (by decide); have nc74 := ao_ne (z := 16) c74 (by decide); omega) (by decide) ?_
                                          exact ih.2.2.2.2.2.2.2.2.2.2.2.2.2.2.2.2.2.2.2.2.2.2.2.2.2.2.2.2.2.2.2.2.2.2.2.2.2.2.2.2.2.2 r1 r2 r3 x4 M ρ _ h hy
    · intro r1 r2 r3 x4 s0 M ρ y h hy
      replace h := ao_ifF h (by decide)
      replace h := ao_ifF h (by decide)
      replace h := ao_ifF h (by decide)
      replace h := ao_ifF h (by decide)
      replace h := ao_ifF h (by decide)
      replace h := ao_ifF h (by decide)
      replace h := ao_ifF h (by decide)
      replace h := ao_ifT h rfl
      refine ao_istore 5 (lo' := [some (.ref bS), some (.ref (Γ.2.2.2 + r1)), some (.ref (Γ.2.2.2 + r2)), some (.ref (Γ.2.2.2 + r3)), some (.int x4), some (.int s0), none]) dL_law_159 (Nat.le_of_ble_eq_true rfl) rfl ?_
      refine ao_aload_n 2 dL_law_161 rfl rfl ?_
      refine ao_aload_n 0 dL_law_162 rfl rfl ?_
      refine ao_iload 4 dL_law_163 rfl ?_
      refine ao_iconst (v := 1) dL_law_165 (by decide) ?_
      refine ao_iadd dL_law_166 ?_
      obtain ⟨hb77, h⟩ := ao_some h
      refine lq_sld dL_law_167 hb77 ?_
      refine ao_aload_n 0 dL_law_168 rfl rfl ?_
      refine ao_iload 4 dL_law_169 rfl ?_
      refine ao_iconst (v := 2) dL_law_171 (by decide) ?_
      refine ao_iadd dL_law_172 ?_
      obtain ⟨hb78, h⟩ := ao_some h
      refine lq_sld dL_law_173 hb78 ?_
      refine ao_aload_n 0 dL_law_174 rfl rfl ?_
      refine ao_iload 4 dL_law_175 rfl ?_
      refine ao_iconst (v := 3) dL_law_177 (by decide) ?_
      refine ao_iadd dL_law_178 ?_
      obtain ⟨hb79, h⟩ := ao_some h
      refine lq_sld dL_law_179 hb79 ?_
      refine ao_aload_n 0 dL_law_180 rfl rfl ?_
      refine ao_iload 4 dL_law_181 rfl ?_
      refine ao_iconst (v := 4) dL_law_183 (by decide) ?_
      refine ao_iadd dL_law_184 ?_
      obtain ⟨hb80, h⟩ := ao_some h
      refine lq_sld dL_law_185 hb80 ?_
      refine ao_aload_n 0 dL_law_186 rfl rfl ?_
      refine ao_iload 4 dL_law_187 rfl ?_
      refine ao_iconst (v := 5) dL_law_189 (by decide) ?_
      refine ao_iadd dL_law_190 ?_
      obtain ⟨hb81, h⟩ := ao_some h
      refine lq_sld dL_law_191 hb81 ?_
      obtain ⟨hk82, h⟩ := ao_some h
      obtain ⟨p83, hp83, h⟩ := ao_bind h
      refine an_callVi r2 12 (q := (RX12, TX12, 83)) [.int (xs (x4 + (1 : Int32)).toNatClampNeg), .int (xs (x4 + (2 : Int32)).toNatClampNeg), .int (xs (x4 + (3 : Int32)).toNatClampNeg), .int (xs (x4 + (4 : Int32)).toNatClampNeg), .int (xs (x4 + (5 : Int32)).toNatClampNeg)] (aX12_feed (d - 1) (by omega) _ r2 (xs (x4 + (1 : Int32)).toNatClampNeg) (xs (x4 + (2 : Int32)).toNatClampNeg) (xs (x4 + (3 : Int32)).toNatClampNeg) (xs (x4 + (4 : Int32)).toNatClampNeg) (xs (x4 + (5 : Int32)).toNatClampNeg) M ρ hp83) dL_law_192 lc_L_76 li_X12_feed ls_X12_feed rfl hk82 rfl rfl (Nat.le_of_ble_eq_true rfl) (lq_hR hd (by decide)) ?_
      refine an_topi (fun v84 hv84 => ?_)
      replace h := ao_letD h hv84
      refine ao_istore 6 (lo' := [some (.ref bS), some (.ref (Γ.2.2.2 + r1)), some (.ref (Γ.2.2.2 + r2)), some (.ref (Γ.2.2.2 + r3)), some (.int x4), some (.int s0), some (.int v84)]) dL_law_195 (Nat.le_of_ble_eq_true rfl) rfl ?_
      refine ao_aload_n 2 dL_law_197 rfl rfl ?_
      obtain ⟨p85, hp85, h⟩ := ao_bind h
      refine an_callVi r2 12 (q := (RX12, TX12, 83)) [] (aX12_thrown (d - 1) (by omega) r2 p83.2 ρ hp85) dL_law_198 lc_L_77 li_X12_thrown ls_X12_thrown rfl hk82 rfl rfl (Nat.le_of_ble_eq_true rfl) (lq_hR hd (by decide)) ?_
      refine ao_iload 5 dL_law_201 rfl ?_
      refine ao_icmp_eq 208 dL_law_203 (by decide) (fun c86 => ?_) (fun c86 => ?_)
      · replace h := ao_ifT h c86
        refine ao_iload 5 dL_law_208 rfl ?_
        refine ao_if_ne 225 dL_law_210 (by decide) (fun c87 => ?_) (fun c87 => ?_)
        · replace h := ao_ifF h c87
          exact ih.2.2.2.2.2.2.2.2.1 r1 r2 r3 x4 s0 v84 p85.2 ρ _ h hy
        · replace h := ao_ifT h c87
          refine ao_aload_n 3 dL_law_213 rfl rfl ?_
          refine ao_iconst (v := 0) dL_law_214 (by decide) ?_
          obtain ⟨hk88, h⟩ := ao_some h
          obtain ⟨hb89, h⟩ := ao_some h
          refine an_laload r3 dL_law_215 hk88 hb89 ?_
          refine ao_iload 6 dL_law_216 rfl ?_
          refine ao_i2l dL_law_218 ?_
          refine ao_lcmp dL_law_219 ?_
          refine ao_if_eq 225 dL_law_220 (by decide) (fun c90 => ?_) (fun c90 => ?_)
          · replace h := ao_ifT h c90
            exact ih.2.2.2.2.2.2.2.2.1 r1 r2 r3 x4 s0 v84 p85.2 ρ _ h hy
          · replace h := ao_ifF h c90
            refine ao_iconst (v := 0) dL_law_223 (by decide) ?_
            cases h
            exact absurd (show (0 : Int32) = 1 from hy) (by decide)
      · replace h := ao_ifF h c86
        refine ao_iconst (v := 0) dL_law_206 (by decide) ?_
        cases h
        exact absurd (show (0 : Int32) = 1 from hy) (by decide)
    · intro r1 r2 r3 x4 x5 x6 M ρ y h hy
      replace h := ao_ifF h (by decide)
      replace h := ao_ifF h (by decide)
      replace h := ao_ifF h (by decide)
      replace h := ao_ifF h (by decide)
      replace h := ao_ifF h (by decide)
      replace h := ao_ifF h (by decide)
      replace h := ao_ifF h (by decide)
      replace h := ao_ifF h (by decide)
      replace h := ao_ifT h rfl
      refine ao_goto 1106 dL_law_225 (by decide) ?_
      refine ao_loForget (lo' := [some (.ref bS), some (.ref (Γ.2.2.2 + r1)), some (.ref (Γ.2.2.2 + r2)), some (.ref (Γ.2.2.2 + r3)), some (.int x4), none, none]) (ao_fgS (ao_fgS (ao_fgS (ao_fgS (ao_fgS (ao_fgN (ao_fgN ao_fgZ))))))) ?_
      exact ih.2.2.2.2.2.2.2.2.2.2.2.2.2.2.2.2.2.2.2.2.2.2.2.2.2.2.2.2.2.2.2.2.2.2.2.2.2.2.2.2.2.2 r1 r2 r3 x4 M ρ _ h hy
    · intro r1 r2 r3 x4 s0 M ρ y h hy
      replace h := ao_ifF h (by decide)
      replace h := ao_ifF h (by decide)
      replace h := ao_ifF h (by decide)
      replace h := ao_ifF h (by decide)
      replace h := ao_ifF h (by decide)
      replace h := ao_ifF h (by decide)
      replace h := ao_ifF h (by decide)
      replace h := ao_ifF h (by decide)
      replace h := ao_ifF h (by decide)
      replace h := ao_ifT h rfl
      refine ao_istore 5 (lo' := [some (.ref bS), some (.ref (Γ.2.2.2 + r1)), some (.ref (Γ.2.2.2 + r2)), some (.ref (Γ.2.2.2 + r3)), some (.int x4), some (.int s0), none]) dL_law_239 (Nat.le_of_ble_eq_true rfl) rfl ?_
      refine ao_aload_n 2 dL_law_241 rfl rfl ?_
      refine ao_aload_n 0 dL_law_242 rfl rfl ?_
      refine ao_iload 4 dL_law_243 rfl ?_
      refine ao_iconst (v := 1) dL_law_245 (by decide) ?_
      refine ao_iadd dL_law_246 ?_
      obtain ⟨hb91, h⟩ := ao_some h
      refine lq_sld dL_law_247 hb91 ?_
      obtain ⟨hk92, h⟩ := ao_some h
      obtain ⟨p93, hp93, h⟩ := ao_bind h
      refine an_callVi r2 12 (q := (RX12, TX12, 83)) [.int (xs (x4 + (1 : Int32)).toNatClampNeg)] (aX12_end (d - 1) (by omega) _ r2 (xs (x4 + (1 : Int32)).toNatClampNeg) M ρ hp93) dL_law_248 lc_L_84 li_X12_end ls_X12_end rfl hk92 rfl rfl (Nat.le_of_ble_eq_true rfl) (lq_hR hd (by decide)) ?_
      refine an_topi (fun v94 hv94 => ?_)
      replace h := ao_letD h hv94
      refine ao_istore 6 (lo' := [some (.ref bS), some (.ref (Γ.2.2.2 + r1)), some (.ref (Γ.2.2.2 + r2)), some (.ref (Γ.2.2.2 + r3)), some (.int x4), some (.int s0), some (.int v94)]) dL_law_251 (Nat.le_of_ble_eq_true rfl) rfl ?_
      refine ao_aload_n 2 dL_law_253 rfl rfl ?_
      obtain ⟨p95, hp95, h⟩ := ao_bind h
      refine an_callVi r2 12 (q := (RX12, TX12, 83)) [] (aX12_thrown (d - 1) (by omega) r2 p93.2 ρ hp95) dL_law_254 lc_L_77 li_X12_thrown ls_X12_thrown rfl hk92 rfl rfl (Nat.le_of_ble_eq_true rfl) (lq_hR hd (by decide)) ?_
      refine ao_iload 5 dL_law_257 rfl ?_
      refine ao_icmp_eq 264 dL_law_259 (by decide) (fun c96 => ?_) (fun c96 => ?_)
      · replace h := ao_ifT h c96
        refine ao_iload 5 dL_law_264 rfl ?_
        refine ao_if_ne 281 dL_law_266 (by decide) (fun c97 => ?_) (fun c97 => ?_)
        · replace h := ao_ifF h c97
          exact ih.2.2.2.2.2.2.2.2.2.2.1 r1 r2 r3 x4 s0 v94 p95.2 ρ _ h hy
        · replace h := ao_ifT h c97
          refine ao_aload_n 3 dL_law_269 rfl rfl ?_
          refine ao_iconst (v := 0) dL_law_270 (by decide) ?_
          obtain ⟨hk98, h⟩ := ao_some h
          obtain ⟨hb99, h⟩ := ao_some h
          refine an_laload r3 dL_law_271 hk98 hb99 ?_
          refine ao_iload 6 dL_law_272 rfl ?_
          refine ao_i2l dL_law_274 ?_
          refine ao_lcmp dL_law_275 ?_
          refine ao_if_eq 281 dL_law_276 (by decide) (fun c100 => ?_) (fun c100 => ?_)
          · replace h := ao_ifT h c100
            exact ih.2.2.2.2.2.2.2.2.2.2.1 r1 r2 r3 x4 s0 v94 p95.2 ρ _ h hy
          · replace h := ao_ifF h c100
            refine ao_iconst (v := 0) dL_law_279 (by decide) ?_
            cases h
            exact absurd (show (0 : Int32) = 1 from hy) (by decide)
      · replace h := ao_ifF h c96
        refine ao_iconst (v := 0) dL_law_262 (by decide) ?_
        cases h
        exact absurd (show (0 : Int32) = 1 from hy) (by decide)
    · intro r1 r2 r3 x4 x5 x6 M ρ y h hy
      replace h := ao_ifF h (by decide)
      replace h := ao_ifF h (by decide)
      replace h := ao_ifF h (by decide)
      replace h := ao_ifF h (by decide)
      replace h := ao_ifF h (by decide)
      replace h := ao_ifF h (by decide)
      replace h := ao_ifF h (by decide)
      replace h := ao_ifF h (by decide)
      replace h := ao_ifF h (by decide)
      replace h := ao_ifF h (by decide)
      replace h := ao_ifT h rfl
      refine ao_goto 1106 dL_law_281 (by decide) ?_
      refine ao_loForget (lo' := [some (.ref bS), some (.ref (Γ.2.2.2 + r1)), some (.ref (Γ.2.2.2 + r2)), some (.ref (Γ.2.2.2 + r3)), some (.int x4), none, none]) (ao_fgS (ao_fgS (ao_fgS (ao_fgS (ao_fgS (ao_fgN (ao_fgN ao_fgZ))))))) ?_
      exact ih.2.2.2.2.2.2.2.2.2.2.2.2.2.2.2.2.2.2.2.2.2.2.2.2.2.2.2.2.2.2.2.2.2.2.2.2.2.2.2.2.2.2 r1 r2 r3 x4 M ρ _ h hy
    · intro r1 r2 r3 x4 s0 M ρ y h hy
      replace h := ao_ifF h (by decide)
      replace h := ao_ifF h (by decide)
      replace h := ao_ifF h (by decide)
      replace h := ao_ifF h (by decide)
      replace h := ao_ifF h (by decide)
      replace h := ao_ifF h (by decide)
      replace h := ao_ifF h (by decide)
      replace h := ao_ifF h (by decide)
      replace h := ao_ifF h (by decide)
      replace h := ao_ifF h (by decide)
      replace h := ao_ifF h (by decide)
      replace h := ao_ifT h rfl
      refine ao_istore 5 (lo' := [some (.ref bS), some (.ref (Γ.2.2.2 + r1)), some (.ref (Γ.2.2.2 + r2)), some (.ref (Γ.2.2.2 + r3)), some (.int x4), some (.int s0), none]) dL_law_294 (Nat.le_of_ble_eq_true rfl) rfl ?_
      refine ao_aload_n 2 dL_law_296 rfl rfl ?_
      refine ao_aload_n 0 dL_law_297 rfl rfl ?_
      refine ao_iload 4 dL_law_298 rfl ?_
      refine ao_iconst (v := 1) dL_law_300 (by decide) ?_
      refine ao_iadd dL_law_301 ?_
      obtain ⟨hb101, h⟩ := ao_some h
      refine lq_sld dL_law_302 hb101 ?_
      obtain ⟨hk102, h⟩ := ao_some h
      obtain ⟨p103, hp103, h⟩ := ao_bind h
      refine an_callVv r2 12 (q := (RX12, TX12, 83)) [.int (xs (x4 + (1 : Int32)).toNatClampNeg)] (aX12_start (d - 1) (by omega) _ r2 (xs (x4 + (1 : Int32)).toNatClampNeg) M ρ hp103) dL_law_303 lc_L_88 li_X12_start ls_X12_start rfl hk102 rfl rfl (Nat.le_of_ble_eq_true rfl) (lq_hR hd (by decide)) ?_
      refine ao_aload_n 2 dL_law_306 rfl rfl ?_
      obtain ⟨p104, hp104, h⟩ := ao_bind h
      refine an_callVi r2 12 (q := (RX12, TX12, 83)) [] (aX12_thrown (d - 1) (by omega) r2 p103 ρ hp104) dL_law_307 lc_L_77 li_X12_thrown ls_X12_thrown rfl hk102 rfl rfl (Nat.le_of_ble_eq_true rfl) (lq_hR hd (by decide)) ?_
      refine ao_iload 5 dL_law_310 rfl ?_
      refine ao_icmp_eq 317 dL_law_312 (by decide) (fun c105 => ?_) (fun c105 => ?_)
      · replace h := ao_ifT h c105
        refine ao_goto 1106 dL_law_317 (by decide) ?_
        refine ao_loForget (lo' := [some (.ref bS), some (.ref (Γ.2.2.2 + r1)), some (.ref (Γ.2.2.2 + r2)), some (.ref (Γ.2.2.2 + r3)), some (.int x4), none, none]) (ao_fgS (ao_fgS (ao_fgS (ao_fgS (ao_fgS (ao_fgN (ao_fgN ao_fgZ))))))) ?_
        exact ih.2.2.2.2.2.2.2.2.2.2.2.2.2.2.2.2.2.2.2.2.2.2.2.2.2.2.2.2.2.2.2.2.2.2.2.2.2.2.2.2.2.2 r1 r2 r3 x4 p104.2 ρ _ h hy
      · replace h := ao_ifF h c105
        refine ao_iconst (v := 0) dL_law_315 (by decide) ?_
        cases h
        exact absurd (show (0 : Int32) = 1 from hy) (by decide)
    · intro r1 r2 r3 x4 s0 M ρ y h hy
      replace h := ao_ifF h (by decide)
      replace h := ao_ifF h (by decide)
      replace h := ao_ifF h (by decide)
      replace h := ao_ifF h (by decide)
      replace h := ao_ifF h (by decide)
      replace h := ao_ifF h (by decide)
      replace h := ao_ifF h (by decide)
      replace h := ao_ifF h (by decide)
      replace h := ao_ifF h (by decide)
      replace h := ao_ifF h (by decide)
      replace h := ao_ifF h (by decide)
      replace h := ao_ifF h (by decide)
      replace h := ao_ifT h rfl
      refine ao_istore 5 (lo' := [some (.ref bS), some (.ref (Γ.2.2.2 + r1)), some (.ref (Γ.2.2.2 + r2)), some (.ref (Γ.2.2.2 + r3)), some (.int x4), some (.int s0), none]) dL_law_331 (Nat.le_of_ble_eq_true rfl) rfl ?_
      refine ao_aload_n 2 dL_law_333 rfl rfl ?_
      refine ao_aload_n 0 dL_law_334 rfl rfl ?_
      refine ao_iload 4 dL_law_335 rfl ?_
      refine ao_iconst (v := 1) dL_law_337 (by decide) ?_
      refine ao_iadd dL_law_338 ?_
      obtain ⟨hb106, h⟩ := ao_some h
      refine lq_sld dL_law_339 hb106 ?_
      obtain ⟨hk107, h⟩ := ao_some h
      obtain ⟨p108, hp108, h⟩ := ao_bind h
      refine lq_callVi r2 12 (q := (RX12, TX12, 83)) [.int (xs (x4 + (1 : Int32)).toNatClampNeg)] (aX12_program (d - 1) (by omega) n r2 (xs (x4 + (1 : Int32)).toNatClampNeg) M ρ hp108) rfl dL_law_340 lh_L_91 li_X12_program ls_X12_program rfl rfl hk107 rfl rfl (Nat.le_of_ble_eq_true rfl) (lq_hR hd (by decide)) (ao_leC (me_X12_program n r2 (xs (x4 + (1 : Int32)).toNatClampNeg) M ρ hp108) ((mL_law n).2.2.2.2.2.2.2.2.2.2.2.2.2.1 r1 r2 r3 x4 s0 p108.1 p108.2.1 p108.2.2 _ h)) (ao_leS (me_X12_program n r2 (xs (x4 + (1 : Int32)).toNatClampNeg) M ρ hp108) ((mL_law n).2.2.2.2.2.2.2.2.2.2.2.2.2.1 r1 r2 r3 x4 s0 p108.1 p108.2.1 p108.2.2 _ h)) ?_
      exact ih.2.2.2.2.2.2.2.2.2.2.2.2.2.1 r1 r2 r3 x4 s0 p108.1 p108.2.1 p108.2.2 _ h hy
    · intro r1 r2 r3 x4 x5 s0 M ρ y h hy
      replace h := ao_ifF h (by decide)
      replace h := ao_ifF h (by decide)
      replace h := ao_ifF h (by decide)
      replace h := ao_ifF h (by decide)
      replace h := ao_ifF h (by decide)
      replace h := ao_ifF h (by decide)
      replace h := ao_ifF h (by decide)
      replace h := ao_ifF h (by decide)
      replace h := ao_ifF h (by decide)
      replace h := ao_ifF h (by decide)
      replace h := ao_ifF h (by decide)
      replace h := ao_ifF h (by decide)
      replace h := ao_ifF h (by decide)
      replace h := ao_ifT h rfl
      refine ao_istore 6 (lo' := [some (.ref bS), some (.ref (Γ.2.2.2 + r1)), some (.ref (Γ.2.2.2 + r2)), some (.ref (Γ.2.2.2 + r3)), some (.int x4), some (.int x5), some (.int s0)]) dL_law_343 (Nat.le_of_ble_eq_true rfl) rfl ?_
      refine ao_aload_n 2 dL_law_345 rfl rfl ?_
      obtain ⟨hk109, h⟩ := ao_some h
      obtain ⟨p110, hp110, h⟩ := ao_bind h
      refine an_callVi r2 12 (q := (RX12, TX12, 83)) [] (aX12_thrown (d - 1) (by omega) r2 M ρ hp110) dL_law_346 lc_L_77 li_X12_thrown ls_X12_thrown rfl hk109 rfl rfl (Nat.le_of_ble_eq_true rfl) (lq_hR hd (by decide)) ?_
      refine ao_iload 5 dL_law_349 rfl ?_
      refine ao_icmp_eq 356 dL_law_351 (by decide) (fun c111 => ?_) (fun c111 => ?_)
      · replace h := ao_ifT h c111
        refine ao_iload 5 dL_law_356 rfl ?_
        refine ao_if_ne 373 dL_law_358 (by decide) (fun c112 => ?_) (fun c112 => ?_)
        · replace h := ao_ifF h c112
          exact ih.2.2.2.2.2.2.2.2.2.2.2.2.2.2.1 r1 r2 r3 x4 x5 s0 p110.2 ρ _ h hy
        · replace h := ao_ifT h c112
          refine ao_aload_n 3 dL_law_361 rfl rfl ?_
          refine ao_iconst (v := 0) dL_law_362 (by decide) ?_
          obtain ⟨hk113, h⟩ := ao_some h
          obtain ⟨hb114, h⟩ := ao_some h
          refine an_laload r3 dL_law_363 hk113 hb114 ?_
          refine ao_iload 6 dL_law_364 rfl ?_
          refine ao_i2l dL_law_366 ?_
          refine ao_lcmp dL_law_367 ?_
          refine ao_if_eq 373 dL_law_368 (by decide) (fun c115 => ?_) (fun c115 => ?_)
          · replace h := ao_ifT h c115
            exact ih.2.2.2.2.2.2.2.2.2.2.2.2.2.2.1 r1 r2 r3 x4 x5 s0 p110.2 ρ _ h hy
          · replace h := ao_ifF h c115
            refine ao_iconst (v := 0) dL_law_371 (by decide) ?_
            cases h
            exact absurd (show (0 : Int32) = 1 from hy) (by decide)
      · replace h := ao_ifF h c111
        refine ao_iconst (v := 0) dL_law_354 (by decide) ?_
        cases h
        exact absurd (show (0 : Int32) = 1 from hy) (by decide)
    · intro r1 r2 r3 x4 x5 x6 M ρ y h hy
      replace h := ao_ifF h (by decide)
      replace h := ao_ifF h (by decide)
      replace h := ao_ifF h (by decide)
      replace h := ao_ifF h (by decide)
      replace h := ao_ifF h (by decide)
      replace h := ao_ifF h (by decide)
      replace h := ao_ifF h (by decide)
      replace h := ao_ifF h (by decide)
      replace h := ao_ifF h (by decide)
      replace h := ao_ifF h (by decide)
      replace h := ao_ifF h (by decide)
      replace h := ao_ifF h (by decide)
      replace h := ao_ifF h (by decide)
      replace h := ao_ifF h (by decide)
      replace h := ao_ifT h rfl
      refine ao_goto 1106 dL_law_373 (by decide) ?_
      refine ao_loForget (lo' := [some (.ref bS), some (.ref (Γ.2.2.2 + r1)), some (.ref (Γ.2.2.2 + r2)), some (.ref (Γ.2.2.2 + r3)), some (.int x4), none, none]) (ao_fgS (ao_fgS (ao_fgS (ao_fgS (ao_fgS (ao_fgN (ao_fgN ao_fgZ))))))) ?_
      exact ih.2.2.2.2.2.2.2.2.2.2.2.2.2.2.2.2.2.2.2.2.2.2.2.2.2.2.2.2.2.2.2.2.2.2.2.2.2.2.2.2.2.2 r1 r2 r3 x4 M ρ _ h hy
    · intro r1 r2 r3 x4 s0 M ρ y h hy
      replace h := ao_ifF h (by decide)
      replace h := ao_ifF h (by decide)
      replace h := ao_ifF h (by decide)
      replace h := ao_ifF h (by decide)
      replace h := ao_ifF h (by decide)
      replace h := ao_ifF h (by decide)
      replace h := ao_ifF h (by decide)
      replace h := ao_ifF h (by decide)
      replace h := ao_ifF h (by decide)
      replace h := ao_ifF h (by decide)
      replace h := ao_ifF h (by decide)
      replace h := ao_ifF h (by decide)
      replace h := ao_ifF h (by decide)
      replace h := ao_ifF h (by decide)
      replace h := ao_ifF h (by decide)
      replace h := ao_ifT h rfl
      refine ao_istore 5 (lo' := [some (.ref bS), some (.ref (Γ.2.2.2 + r1)), some (.ref (Γ.2.2.2 + r2)), some (.ref (Γ.2.2.2 + r3)), some (.int x4), some (.int s0), none]) dL_law_406 (Nat.le_of_ble_eq_true rfl) rfl ?_
      refine ao_aload_n 2 dL_law_408 rfl rfl ?_
      refine ao_aload_n 0 dL_law_409 rfl rfl ?_
      refine ao_iload 4 dL_law_410 rfl ?_
      refine ao_iconst (v := 1) dL_law_412 (by decide) ?_
      refine ao_iadd dL_law_413 ?_
      obtain ⟨hb116, h⟩ := ao_some h
      refine lq_sld dL_law_414 hb116 ?_
      refine ao_aload_n 0 dL_law_415 rfl rfl ?_
      refine ao_iload 4 dL_law_416 rfl ?_
      refine ao_iconst (v := 2) dL_law_418 (by decide) ?_
      refine ao_iadd dL_law_419 ?_
      obtain ⟨hb117, h⟩ := ao_some h
      refine lq_sld dL_law_420 hb117 ?_
      obtain ⟨hk118, h⟩ := ao_some h
      obtain ⟨p119, hp119, h⟩ := ao_bind h
      refine ba_callVi r2 12 (q := (RX12, TX12, 83)) [.int (xs (x4 + (1 : Int32)).toNatClampNeg), .int (xs (x4 + (2 : Int32)).toNatClampNeg)] (aX12_put (d - 1) (by omega) n r2 (xs (x4 + (1 : Int32)).toNatClampNeg) (xs (x4 + (2 : Int32)).toNatClampNeg) M ρ hp119) dL_law_421 lc_L_99 li_X12_put ls_X12_put rfl hk118 rfl rfl (Nat.le_of_ble_eq_true rfl) (lq_hR hd (by decide)) (ao_leC (me_X12_put n r2 (xs (x4 + (1 : Int32)).toNatClampNeg) (xs (x4 + (2 : Int32)).toNatClampNeg) M ρ hp119) ((mL_law n).2.2.2.2.2.2.2.2.2.2.2.2.2.2.2.2.1 r1 r2 r3 x4 s0 p119.1 p119.2.1 p119.2.2 _ h)) (ao_leS (me_X12_put n r2 (xs (x4 + (1 : Int32)).toNatClampNeg) (xs (x4 + (2 : Int32)).toNatClampNeg) M ρ hp119) ((mL_law n).2.2.2.2.2.2.2.2.2.2.2.2.2.2.2.2.1 r1 r2 r3 x4 s0 p119.1 p119.2.1 p119.2.2 _ h)) ?_
      exact ih.2.2.2.2.2.2.2.2.2.2.2.2.2.2.2.2.1 r1 r2 r3 x4 s0 p119.1 p119.2.1 p119.2.2 _ h hy
    · intro r1 r2 r3 x4 x5 s0 M ρ y h hy
      replace h := ao_ifF h (by decide)
      replace h := ao_ifF h (by decide)
      replace h := ao_ifF h (by decide)
      replace h := ao_ifF h (by decide)
      replace h := ao_ifF h (by decide)
      replace h := ao_ifF h (by decide)
      replace h := ao_ifF h (by decide)
      replace h := ao_ifF h (by decide)
      replace h := ao_ifF h (by decide)
      replace h := ao_ifF h (by decide)
      replace h := ao_ifF h (by decide)
      replace h := ao_ifF h (by decide)
      replace h := ao_ifF h (by decide)
      replace h := ao_ifF h (by decide)
      replace h := ao_ifF h (by decide)
      replace h := ao_ifF h (by decide)
      replace h := ao_ifT h rfl
      refine ao_istore 6 (lo' := [some (.ref bS), some (.ref (Γ.2.2.2 + r1)), some (.ref (Γ.2.2.2 + r2)), some (.ref (Γ.2.2.2 + r3)), some (.int x4), some (.int x5), some (.int s0)]) dL_law_424 (Nat.le_of_ble_eq_true rfl) rfl ?_
      refine ao_aload_n 2 dL_law_426 rfl rfl ?_
      obtain ⟨hk120, h⟩ := ao_some h
      obtain ⟨p121, hp121, h⟩ := ao_bind h
      refine an_callVi r2 12 (q := (RX12, TX12, 83)) [] (aX12_thrown (d - 1) (by omega) r2 M ρ hp121) dL_law_427 lc_L_77 li_X12_thrown ls_X12_thrown rfl hk120 rfl rfl (Nat.le_of_ble_eq_true rfl) (lq_hR hd (by decide)) ?_
      refine ao_iload 5 dL_law_430 rfl ?_
      refine ao_icmp_eq 437 dL_law_432 (by decide) (fun c122 => ?_) (fun c122 => ?_)
      · replace h := ao_ifT h c122
        refine ao_iload 5 dL_law_437 rfl ?_
        refine ao_if_ne 454 dL_law_439 (by decide) (fun c123 => ?_) (fun c123 => ?_)
        · replace h := ao_ifF h c123
          exact ih.2.2.2.2.2.2.2.2.2.2.2.2.2.2.2.2.2.1 r1 r2 r3 x4 x5 s0 p121.2 ρ _ h hy
        · replace h := ao_ifT h c123
          refine ao_aload_n 3 dL_law_442 rfl rfl ?_
          refine ao_iconst (v := 0) dL_law_443 (by decide) ?_
          obtain ⟨hk124, h⟩ := ao_some h
          obtain ⟨hb125, h⟩ := ao_some h
          refine an_laload r3 dL_law_444 hk124 hb125 ?_
          refine ao_iload 6 dL_law_445 rfl ?_
          refine ao_i2l dL_law_447 ?_
          refine ao_lcmp dL_law_448 ?_
          refine ao_if_eq 454 dL_law_449 (by decide) (fun c126 => ?_) (fun c126 => ?_)
          · replace h := ao_ifT h c126
            exact ih.2.2.2.2.2.2.2.2.2.2.2.2.2.2.2.2.2.1 r1 r2 r3 x4 x5 s0 p121.2 ρ _ h hy
          · replace h := ao_ifF h c126
            refine ao_iconst (v := 0) dL_law_452 (by decide) ?_
            cases h
            exact absurd (show (0 : Int32) = 1 from hy) (by decide)
      · replace h := ao_ifF h c122
        refine ao_iconst (v := 0) dL_law_435 (by decide) ?_
        cases h
        exact absurd (show (0 : Int32) = 1 from hy) (by decide)
    · intro r1 r2 r3 x4 x5 x6 M ρ y h hy
      replace h := ao_ifF h (by decide)
      replace h := ao_ifF h (by decide)
      replace h := ao_ifF h (by decide)
      replace h := ao_ifF h (by decide)
      replace h := ao_ifF h (by decide)
      replace h := ao_ifF h (by decide)
      replace h := ao_ifF h (by decide)
      replace h := ao_ifF h (by decide)
      replace h := ao_ifF h (by decide)
      replace h := ao_ifF h (by decide)
      replace h := ao_ifF h (by decide)
      replace h := ao_ifF h (by decide)
      replace h := ao_ifF h (by decide)
      replace h := ao_ifF h (by decide)
      replace h := ao_ifF h (by decide)
      replace h := ao_ifF h (by decide)
      replace h := ao_ifF h (by decide)
      replace h := ao_ifT h rfl
      refine ao_goto 1106 dL_law_454 (by decide) ?_
      refine ao_loForget (lo' := [some (.ref bS), some (.ref (Γ.2.2.2 + r1)), some (.ref (Γ.2.2.2 + r2)), some (.ref (Γ.2.2.2 + r3)), some (.int x4), none, none]) (ao_fgS (ao_fgS (ao_fgS (ao_fgS (ao_fgS (ao_fgN (ao_fgN ao_fgZ))))))) ?_
      exact ih.2.2.2.2.2.2.2.2.2.2.2.2.2.2.2.2.2.2.2.2.2.2.2.2.2.2.2.2.2.2.2.2.2.2.2.2.2.2.2.2.2.2 r1 r2 r3 x4 M ρ _ h hy
    · intro r1 r2 r3 x4 s0 M ρ y h hy
      replace h := ao_ifF h (by decide)
      replace h := ao_ifF h (by decide)
      replace h := ao_ifF h (by decide)
      replace h := ao_ifF h (by decide)
      replace h := ao_ifF h (by decide)
      replace h := ao_ifF h (by decide)
      replace h := ao_ifF h (by decide)
      replace h := ao_ifF h (by decide)
      replace h := ao_ifF h (by decide)
      replace h := ao_ifF h (by decide)
      replace h := ao_ifF h (by decide)
      replace h := ao_ifF h (by decide)
      replace h := ao_ifF h (by decide)
      replace h := ao_ifF h (by decide)
      replace h := ao_ifF h (by decide)
      replace h := ao_ifF h (by decide)
      replace h := ao_ifF h (by decide)
      replace h := ao_ifF h (by decide)
      replace h := ao_ifT h rfl
      refine ao_istore 5 (lo' := [some (.ref bS), some (.ref (Γ.2.2.2 + r1)), some (.ref (Γ.2.2.2 + r2)), some (.ref (Γ.2.2.2 + r3)), some (.int x4), some (.int s0), none]) dL_law_468 (Nat.le_of_ble_eq_true rfl) rfl ?_
      refine ao_aload_n 2 dL_law_470 rfl rfl ?_
      refine ao_aload_n 0 dL_law_471 rfl rfl ?_
      refine ao_iload 4 dL_law_472 rfl ?_
      refine ao_iconst (v := 1) dL_law_474 (by decide) ?_
      refine ao_iadd dL_law_475 ?_
      obtain ⟨hb127, h⟩ := ao_some h
      refine lq_sld dL_law_476 hb127 ?_
      obtain ⟨hk128, h⟩ := ao_some h
      obtain ⟨p129, hp129, h⟩ := ao_bind h
      refine ba_callVi r2 12 (q := (RX12, TX12, 83)) [.int (xs (x4 + (1 : Int32)).toNatClampNeg)] (aX12_turn (d - 1) (by omega) n r2 (xs (x4 + (1 : Int32)).toNatClampNeg) M ρ hp129) dL_law_477 lc_L_102 li_X12_turn ls_X12_turn rfl hk128 rfl rfl (Nat.le_of_ble_eq_true rfl) (lq_hR hd (by decide)) (ao_leC (me_X12_turn n r2 (xs (x4 + (1 : Int32)).toNatClampNeg) M ρ hp129) ((mL_law n).2.2.2.2.2.2.2.2.2.2.2.2.2.2.2.2.2.2.2.1 r1 r2 r3 x4 s0 p129.1 p129.2.1 p129.2.2 _ h)) (ao_leS (me_X12_turn n r2 (xs (x4 + (1 : Int32)).toNatClampNeg) M ρ hp129) ((mL_law n).2.2.2.2.2.2.2.2.2.2.2.2.2.2.2.2.2.2.2.1 r1 r2 r3 x4 s0 p129.1 p129.2.1 p129.2.2 _ h)) ?_
      exact ih.2.2.2.2.2.2.2.2.2.2.2.2.2.2.2.2.2.2.2.1 r1 r2 r3 x4 s0 p129.1 p129.2.1 p129.2.2 _ h hy
    · intro r1 r2 r3 x4 x5 s0 M ρ y h hy
      replace h := ao_ifF h (by decide)
      replace h := ao_ifF h (by decide)
      replace h := ao_ifF h (by decide)
      replace h := ao_ifF h (by decide)
      replace h := ao_ifF h (by decide)
      replace h := ao_ifF h (by decide)
      replace h := ao_ifF h (by decide)
      replace h := ao_ifF h (by decide)
      replace h := ao_ifF h (by decide)
      replace h := ao_ifF h (by decide)
      replace h := ao_ifF h (by decide)
      replace h := ao_ifF h (by decide)
      replace h := ao_ifF h (by decide)
      replace h := ao_ifF h (by decide)
      replace h := ao_ifF h (by decide)
      replace h := ao_ifF h (by decide)
      replace h := ao_ifF h (by decide)
      replace h := ao_ifF h (by decide)
      replace h := ao_ifF h (by decide)
      replace h := ao_ifT h rfl
      refine ao_istore 6 (lo' := [some (.ref bS), some (.ref (Γ.2.2.2 + r1)), some (.ref (Γ.2.2.2 + r2)), some (.ref (Γ.2.2.2 + r3)), some (.int x4), some (.int x5), some (.int s0)]) dL_law_480 (Nat.le_of_ble_eq_true rfl) rfl ?_
      refine ao_aload_n 2 dL_law_482 rfl rfl ?_
      obtain ⟨hk130, h⟩ := ao_some h
      obtain ⟨p131, hp131, h⟩ := ao_bind h
      refine an_callVi r2 12 (q := (RX12, TX12, 83)) [] (aX12_thrown (d - 1) (by omega) r2 M ρ hp131) dL_law_483 lc_L_77 li_X12_thrown ls_X12_thrown rfl hk130 rfl rfl (Nat.le_of_ble_eq_true rfl) (lq_hR hd (by decide)) ?_
      refine ao_iload 5 dL_law_486 rfl ?_
      refine ao_icmp_eq 493 dL_law_488 (by decide) (fun c132 => ?_) (fun c132 => ?_)
      · replace h := ao_ifT h c132
        refine ao_iload 5 dL_law_493 rfl ?_
        refine ao_if_ne 510 dL_law_495 (by decide) (fun c133 => ?_) (fun c133 => ?_)
        · replace h := ao_ifF h c133
          exact ih.2.2.2.2.2.2.2.2.2.2.2.2.2.2.2.2.2.2.2.2.1 r1 r2 r3 x4 x5 s0 p131.2 ρ _ h hy
        · replace h := ao_ifT h c133
          refine ao_aload_n 3 dL_law_498 rfl rfl ?_
          refine ao_iconst (v := 0) dL_law_499 (by decide) ?_
          obtain ⟨hk134, h⟩ := ao_some h
          obtain ⟨hb135, h⟩ := ao_some h
          refine an_laload r3 dL_law_500 hk134 hb135 ?_
          refine ao_iload 6 dL_law_501 rfl ?_
          refine ao_i2l dL_law_503 ?_
          refine ao_lcmp dL_law_504 ?_
          refine ao_if_eq 510 dL_law_505 (by decide) (fun c136 => ?_) (fun c136 => ?_)
          · replace h := ao_ifT h c136
            exact ih.2.2.2.2.2.2.2.2.2.2.2.2.2.2.2.2.2.2.2.2.1 r1 r2 r3 x4 x5 s0 p131.2 ρ _ h hy
          · replace h := ao_ifF h c136
            refine ao_iconst (v := 0) dL_law_508 (by decide) ?_
            cases h
            exact absurd (show (0 : Int32) = 1 from hy) (by decide)
      · replace h := ao_ifF h c132
        refine ao_iconst (v := 0) dL_law_491 (by decide) ?_
        cases h
        exact absurd (show (0 : Int32) = 1 from hy) (by decide)
    · intro r1 r2 r3 x4 x5 x6 M ρ y h hy
      replace h := ao_ifF h (by decide)
      replace h := ao_ifF h (by decide)
      replace h := ao_ifF h (by decide)
      replace h := ao_ifF h (by decide)
      replace h := ao_ifF h (by decide)
      replace h := ao_ifF h (by decide)
      replace h := ao_ifF h (by decide)
      replace h := ao_ifF h (by decide)
      replace h := ao_ifF h (by decide)
      replace h := ao_ifF h (by decide)
      replace h := ao_ifF h (by decide)
      replace h := ao_ifF h (by decide)
      replace h := ao_ifF h (by decide)
      replace h := ao_ifF h (by decide)
      replace h := ao_ifF h (by decide)
      replace h := ao_ifF h (by decide)
      replace h := ao_ifF h (by decide)
      replace h := ao_ifF h (by decide)
      replace h := ao_ifF h (by decide)
      replace h := ao_ifF h (by decide)
      replace h := ao_ifT h rfl
      refine ao_goto 1106 dL_law_510 (by decide) ?_
      refine ao_loForget (lo' := [some (.ref bS), some (.ref (Γ.2.2.2 + r1)), some (.ref (Γ.2.2.2 + r2)), some (.ref (Γ.2.2.2 + r3)), some (.int x4), none, none]) (ao_fgS (ao_fgS (ao_fgS (ao_fgS (ao_fgS (ao_fgN (ao_fgN ao_fgZ))))))) ?_
      exact ih.2.2.2.2.2.2.2.2.2.2.2.2.2.2.2.2.2.2.2.2.2.2.2.2.2.2.2.2.2.2.2.2.2.2.2.2.2.2.2.2.2.2 r1 r2 r3 x4 M ρ _ h hy
    · intro r1 r2 r3 x4 s0 M ρ y h hy
      replace h := ao_ifF h (by decide)
      replace h := ao_ifF h (by decide)
      replace h := ao_ifF h (by decide)
      replace h := ao_ifF h (by decide)
      replace h := ao_ifF h (by decide)
      replace h := ao_ifF h (by decide)
      replace h := ao_ifF h (by decide)
      replace h := ao_ifF h (by decide)
      replace h := ao_ifF h (by decide)
      replace h := ao_ifF h (by decide)
      replace h := ao_ifF h (by decide)
      replace h := ao_ifF h (by decide)
      replace h := ao_ifF h (by decide)
      replace h := ao_ifF h (by decide)
      replace h := ao_ifF h (by decide)
      replace h := ao_ifF h (by decide)
      replace h := ao_ifF h (by decide)
      replace h := ao_ifF h (by decide)
      replace h := ao_ifF h (by decide)
      replace h := ao_ifF h (by decide)
      replace h := ao_ifF h (by decide)
      replace h := ao_ifT h rfl
      refine ao_istore 5 (lo' := [some (.ref bS), some (.ref (Γ.2.2.2 + r1)), some (.ref (Γ.2.2.2 + r2)), some (.ref (Γ.2.2.2 + r3)), some (.int x4), some (.int s0), none]) dL_law_524 (Nat.le_of_ble_eq_true rfl) rfl ?_
      refine ao_aload_n 2 dL_law_526 rfl rfl ?_
      refine ao_aload_n 0 dL_law_527 rfl rfl ?_
      refine ao_iload 4 dL_law_528 rfl ?_
      refine ao_iconst (v := 1) dL_law_530 (by decide) ?_
      refine ao_iadd dL_law_531 ?_
      obtain ⟨hb137, h⟩ := ao_some h
      refine lq_sld dL_law_532 hb137 ?_
      obtain ⟨hk138, h⟩ := ao_some h
      obtain ⟨p139, hp139, h⟩ := ao_bind h
      refine ba_callVi r2 12 (q := (RX12, TX12, 83)) [.int (xs (x4 + (1 : Int32)).toNatClampNeg)] (aX12_round (d - 1) (by omega) n r2 (xs (x4 + (1 : Int32)).toNatClampNeg) M ρ hp139) dL_law_533 lc_L_105 li_X12_round ls_X12_round rfl hk138 rfl rfl (Nat.le_of_ble_eq_true rfl) (lq_hR hd (by decide)) (ao_leC (me_X12_round n r2 (xs (x4 + (1 : Int32)).toNatClampNeg) M ρ hp139) ((mL_law n).2.2.2.2.2.2.2.2.2.2.2.2.2.2.2.2.2.2.2.2.2.2.1 r1 r2 r3 x4 s0 p139.1 p139.2.1 p139.2.2 _ h)) (ao_leS (me_X12_round n r2 (xs (x4 + (1 : Int32)).toNatClampNeg) M ρ hp139) ((mL_law n).2.2.2.2.2.2.2.2.2.2.2.2.2.2.2.2.2.2.2.2.2.2.1 r1 r2 r3 x4 s0 p139.1 p139.2.1 p139.2.2 _ h)) ?_
      exact ih.2.2.2.2.2.2.2.2.2.2.2.2.2.2.2.2.2.2.2.2.2.2.1 r1 r2 r3 x4 s0 p139.1 p139.2.1 p139.2.2 _ h hy
    · intro r1 r2 r3 x4 x5 s0 M ρ y h hy
      replace h := ao_ifF h (by decide)
      replace h := ao_ifF h (by decide)
      replace h := ao_ifF h (by decide)
      replace h := ao_ifF h (by decide)
      replace h := ao_ifF h (by decide)
      replace h := ao_ifF h (by decide)
      replace h := ao_ifF h (by decide)
      replace h := ao_ifF h (by decide)
      replace h := ao_ifF h (by decide)
      replace h := ao_ifF h (by decide)
      replace h := ao_ifF h (by decide)
      replace h := ao_ifF h (by decide)
      replace h := ao_ifF h (by decide)
      replace h := ao_ifF h (by decide)
      replace h := ao_ifF h (by decide)
      replace h := ao_ifF h (by decide)
      replace h := ao_ifF h (by decide)
      replace h := ao_ifF h (by decide)
      replace h := ao_ifF h (by decide)
      replace h := ao_ifF h (by decide)
      replace h := ao_ifF h (by decide)
      replace h := ao_ifF h (by decide)
      replace h := ao_ifT h rfl
      refine ao_istore 6 (lo' := [some (.ref bS), some (.ref (Γ.2.2.2 + r1)), some (.ref (Γ.2.2.2 + r2)), some (.ref (Γ.2.2.2 + r3)), some (.int x4), some (.int x5), some (.int s0)]) dL_law_536 (Nat.le_of_ble_eq_true rfl) rfl ?_
      refine ao_aload_n 2 dL_law_538 rfl rfl ?_
      obtain ⟨hk140, h⟩ := ao_some h
      obtain ⟨p141, hp141, h⟩ := ao_bind h
      refine an_callVi r2 12 (q := (RX12, TX12, 83)) [] (aX12_thrown (d - 1) (by omega) r2 M ρ hp141) dL_law_539 lc_L_77 li_X12_thrown ls_X12_thrown rfl hk140 rfl rfl (Nat.le_of_ble_eq_true rfl) (lq_hR hd (by decide)) ?_
      refine ao_iload 5 dL_law_542 rfl ?_
      refine ao_icmp_eq 549 dL_law_544 (by decide) (fun c142 => ?_) (fun c142 => ?_)
      · replace h := ao_ifT h c142
        refine ao_iload 5 dL_law_549 rfl ?_
        refine ao_if_ne 566 dL_law_551 (by decide) (fun c143 => ?_) (fun c143 => ?_)
        · replace h := ao_ifF h c143
          exact ih.2.2.2.2.2.2.2.2.2.2.2.2.2.2.2.2.2.2.2.2.2.2.2.1 r1 r2 r3 x4 x5 s0 p141.2 ρ _ h hy
        · replace h := ao_ifT h c143
          refine ao_aload_n 3 dL_law_554 rfl rfl ?_
          refine ao_iconst (v := 0) dL_law_555 (by decide) ?_
          obtain ⟨hk144, h⟩ := ao_some h
          obtain ⟨hb145, h⟩ := ao_some h
          refine an_laload r3 dL_law_556 hk144 hb145 ?_
          refine ao_iload 6 dL_law_557 rfl ?_
          refine ao_i2l dL_law_559 ?_
          refine ao_lcmp dL_law_560 ?_
          refine ao_if_eq 566 dL_law_561 (by decide) (fun c146 => ?_) (fun c146 => ?_)
          · replace h := ao_ifT h c146
            exact ih.2.2.2.2.2.2.2.2.2.2.2.2.2.2.2.2.2.2.2.2.2.2.2.1 r1 r2 r3 x4 x5 s0 p141.2 ρ _ h hy
          · replace h := ao_ifF h c146
            refine ao_iconst (v := 0) dL_law_564 (by decide) ?_
            cases h
            exact absurd (show (0 : Int32) = 1 from hy) (by decide)
      · replace h := ao_ifF h c142
        refine ao_iconst (v := 0) dL_law_547 (by decide) ?_
        cases h
        exact absurd (show (0 : Int32) = 1 from hy) (by decide)
    · intro r1 r2 r3 x4 x5 x6 M ρ y h hy
      replace h := ao_ifF h (by decide)
      replace h := ao_ifF h (by decide)
      replace h := ao_ifF h (by decide)
      replace h := ao_ifF h (by decide)
      replace h := ao_ifF h (by decide)
      replace h := ao_ifF h (by decide)
      replace h := ao_ifF h (by decide)
      replace h := ao_ifF h (by decide)
      replace h := ao_ifF h (by decide)
      replace h := ao_ifF h (by decide)
      replace h := ao_ifF h (by decide)
      replace h := ao_ifF h (by decide)
      replace h := ao_ifF h (by decide)
      replace h := ao_ifF h (by decide)
      replace h := ao_ifF h (by decide)
      replace h := ao_ifF h (by decide)
      replace h := ao_ifF h (by decide)
      replace h := ao_ifF h (by decide)
      replace h := ao_ifF h (by decide)
      replace h := ao_ifF h (by decide)
      replace h := ao_ifF h (by decide)
      replace h := ao_ifF h (by decide)
      replace h := ao_ifF h (by decide)
      replace h := ao_ifT h rfl
      refine ao_goto 1106 dL_law_566 (by decide) ?_
      refine ao_loForget (lo' := [some (.ref bS), some (.ref (Γ.2.2.2 + r1)), some (.ref (Γ.2.2.2 + r2)), some (.ref (Γ.2.2.2 + r3)), some (.int x4), none, none]) (ao_fgS (ao_fgS (ao_fgS (ao_fgS (ao_fgS (ao_fgN (ao_fgN ao_fgZ))))))) ?_
      exact ih.2.2.2.2.2.2.2.2.2.2.2.2.2.2.2.2.2.2.2.2.2.2.2.2.2.2.2.2.2.2.2.2.2.2.2.2.2.2.2.2.2.2 r1 r2 r3 x4 M ρ _ h hy
    · intro r1 r2 r3 x4 s0 M ρ y h hy
      replace h := ao_ifF h (by decide)
      replace h := ao_ifF h (by decide)
      replace h := ao_ifF h (by decide)
      replace h := ao_ifF h (by decide)
      replace h := ao_ifF h (by decide)
      replace h := ao_ifF h (by decide)
      replace h := ao_ifF h (by decide)
      replace h := ao_ifF h (by decide)
      replace h := ao_ifF h (by decide)
      replace h := ao_ifF h (by decide)
      replace h := ao_ifF h (by decide)
      replace h := ao_ifF h (by decide)
      replace h := ao_ifF h (by decide)
      replace h := ao_ifF h (by decide)
      replace h := ao_ifF h (by decide)
      replace h := ao_ifF h (by decide)
      replace h := ao_ifF h (by decide)
      replace h := ao_ifF h (by decide)
      replace h := ao_ifF h (by decide)
      replace h := ao_ifF h (by decide)
      replace h := ao_ifF h (by decide)
      replace h := ao_ifF h (by decide)
      replace h := ao_ifF h (by decide)
      replace h := ao_ifF h (by decide)
      replace h := ao_ifT h rfl
      refine ao_istore 5 (lo' := [some (.ref bS), some (.ref (Γ.2.2.2 + r1)), some (.ref (Γ.2.2.2 + r2)), some (.ref (Γ.2.2.2 + r3)), some (.int x4), some (.int s0), none]) dL_law_580 (Nat.le_of_ble_eq_true rfl) rfl ?_
      refine ao_aload_n 2 dL_law_582 rfl rfl ?_
      refine ao_aload_n 0 dL_law_583 rfl rfl ?_
      refine ao_iload 4 dL_law_584 rfl ?_
      refine ao_iconst (v := 1) dL_law_586 (by decide) ?_
      refine ao_iadd dL_law_587 ?_
      obtain ⟨hb147, h⟩ := ao_some h
      refine lq_sld dL_law_588 hb147 ?_
      obtain ⟨hk148, h⟩ := ao_some h
      obtain ⟨p149, hp149, h⟩ := ao_bind h
      refine an_callVi r2 12 (q := (RX12, TX12, 83)) [.int (xs (x4 + (1 : Int32)).toNatClampNeg)] (aX12_has (d - 1) (by omega) _ r2 (xs (x4 + (1 : Int32)).toNatClampNeg) M ρ hp149) dL_law_589 lc_L_108 li_X12_has ls_X12_has rfl hk148 rfl rfl (Nat.le_of_ble_eq_true rfl) (lq_hR hd (by decide)) ?_
      refine an_topi (fun v150 hv150 => ?_)
      replace h := ao_letD h hv150
      refine ao_istore 6 (lo' := [some (.ref bS), some (.ref (Γ.2.2.2 + r1)), some (.ref (Γ.2.2.2 + r2)), some (.ref (Γ.2.2.2 + r3)), some (.int x4), some (.int s0), some (.int v150)]) dL_law_592 (Nat.le_of_ble_eq_true rfl) rfl ?_
      refine ao_aload_n 2 dL_law_594 rfl rfl ?_
      obtain ⟨p151, hp151, h⟩ := ao_bind h
      refine an_callVi r2 12 (q := (RX12, TX12, 83)) [] (aX12_thrown (d - 1) (by omega) r2 p149.2 ρ hp151) dL_law_595 lc_L_77 li_X12_thrown ls_X12_thrown rfl hk148 rfl rfl (Nat.le_of_ble_eq_true rfl) (lq_hR hd (by decide)) ?_
      refine ao_iload 5 dL_law_598 rfl ?_
      refine ao_icmp_eq 605 dL_law_600 (by decide) (fun c152 => ?_) (fun c152 => ?_)
      · replace h := ao_ifT h c152
        refine ao_iload 5 dL_law_605 rfl ?_
        refine ao_if_ne 622 dL_law_607 (by decide) (fun c153 => ?_) (fun c153 => ?_)
        · replace h := ao_ifF h c153
          exact ih.2.2.2.2.2.2.2.2.2.2.2.2.2.2.2.2.2.2.2.2.2.2.2.2.2.1 r1 r2 r3 x4 s0 v150 p151.2 ρ _ h hy
        · replace h := ao_ifT h c153
          refine ao_aload_n 3 dL_law_610 rfl rfl ?_
          refine ao_iconst (v := 0) dL_law_611 (by decide) ?_
          obtain ⟨hk154, h⟩ := ao_some h
          obtain ⟨hb155, h⟩ := ao_some h
          refine an_laload r3 dL_law_612 hk154 hb155 ?_
          refine ao_iload 6 dL_law_613 rfl ?_
          refine ao_i2l dL_law_615 ?_
          refine ao_lcmp dL_law_616 ?_
          refine ao_if_eq 622 dL_law_617 (by decide) (fun c156 => ?_) (fun c156 => ?_)
          · replace h := ao_ifT h c156
            exact ih.2.2.2.2.2.2.2.2.2.2.2.2.2.2.2.2.2.2.2.2.2.2.2.2.2.1 r1 r2 r3 x4 s0 v150 p151.2 ρ _ h hy
          · replace h := ao_ifF h c156
            refine ao_iconst (v := 0) dL_law_620 (by decide) ?_
            cases h
            exact absurd (show (0 : Int32) = 1 from hy) (by decide)
      · replace h := ao_ifF h c152
        refine ao_iconst (v := 0) dL_law_603 (by decide) ?_
        cases h
        exact absurd (show (0 : Int32) = 1 from hy) (by decide)
    · intro r1 r2 r3 x4 x5 x6 M ρ y h hy
      replace h := ao_ifF h (by decide)
      replace h := ao_ifF h (by decide)
      replace h := ao_ifF h (by decide)
      replace h := ao_ifF h (by decide)
      replace h := ao_ifF h (by decide)
      replace h := ao_ifF h (by decide)
      replace h := ao_ifF h (by decide)
      replace h := ao_ifF h (by decide)
      replace h := ao_ifF h (by decide)
      replace h := ao_ifF h (by decide)
      replace h := ao_ifF h (by decide)
      replace h := ao_ifF h (by decide)
      replace h := ao_ifF h (by decide)
      replace h := ao_ifF h (by decide)
      replace h := ao_ifF h (by decide)
      replace h := ao_ifF h (by decide)
      replace h := ao_ifF h (by decide)
      replace h := ao_ifF h (by decide)
      replace h := ao_ifF h (by decide)
      replace h := ao_ifF h (by decide)
      replace h := ao_ifF h (by decide)
      replace h := ao_ifF h (by decide)
      replace h := ao_ifF h (by decide)
      replace h := ao_ifF h (by decide)
      replace h := ao_ifF h (by decide)
      replace h := ao_ifT h rfl
      refine ao_goto 1106 dL_law_622 (by decide) ?_
      refine ao_loForget (lo' := [some (.ref bS), some (.ref (Γ.2.2.2 + r1)), some (.ref (Γ.2.2.2 + r2)), some (.ref (Γ.2.2.2 + r3)), some (.int x4), none, none]) (ao_fgS (ao_fgS (ao_fgS (ao_fgS (ao_fgS (ao_fgN (ao_fgN ao_fgZ))))))) ?_
      exact ih.2.2.2.2.2.2.2.2.2.2.2.2.2.2.2.2.2.2.2.2.2.2.2.2.2.2.2.2.2.2.2.2.2.2.2.2.2.2.2.2.2.2 r1 r2 r3 x4 M ρ _ h hy
    · intro r1 r2 r3 x4 s0 M ρ y h hy
      replace h := ao_ifF h (by decide)
      replace h := ao_ifF h (by decide)
      replace h := ao_ifF h (by decide)
      replace h := ao_ifF h (by decide)
      replace h := ao_ifF h (by decide)
      replace h := ao_ifF h (by decide)
      replace h := ao_ifF h (by decide)
      replace h := ao_ifF h (by decide)
      replace h := ao_ifF h (by decide)
      replace h := ao_ifF h (by decide)
      replace h := ao_ifF h (by decide)
      replace h := ao_ifF h (by decide)
      replace h := ao_ifF h (by decide)
      replace h := ao_ifF h (by decide)
      replace h := ao_ifF h (by decide)
      replace h := ao_ifF h (by decide)
      replace h := ao_ifF h (by decide)
      replace h := ao_ifF h (by decide)
      replace h := ao_ifF h (by decide)
      replace h := ao_ifF h (by decide)
      replace h := ao_ifF h (by decide)
      replace h := ao_ifF h (by decide)
      replace h := ao_ifF h (by decide)
      replace h := ao_ifF h (by decide)
      replace h := ao_ifF h (by decide)
      replace h := ao_ifF h (by decide)
      replace h := ao_ifT h rfl
      refine ao_istore 5 (lo' := [some (.ref bS), some (.ref (Γ.2.2.2 + r1)), some (.ref (Γ.2.2.2 + r2)), some (.ref (Γ.2.2.2 + r3)), some (.int x4), some (.int s0), none]) dL_law_642 (Nat.le_of_ble_eq_true rfl) rfl ?_
      refine ao_aload_n 2 dL_law_644 rfl rfl ?_
      refine ao_aload_n 0 dL_law_645 rfl rfl ?_
      refine ao_iload 4 dL_law_646 rfl ?_
      refine ao_iconst (v := 1) dL_law_648 (by decide) ?_
      refine ao_iadd dL_law_649 ?_
      obtain ⟨hb157, h⟩ := ao_some h
      refine lq_sld dL_law_650 hb157 ?_
      refine ao_aload_n 0 dL_law_651 rfl rfl ?_
      refine ao_iload 4 dL_law_652 rfl ?_
      refine ao_iconst (v := 2) dL_law_654 (by decide) ?_
      refine ao_iadd dL_law_655 ?_
      obtain ⟨hb158, h⟩ := ao_some h
      refine lq_sld dL_law_656 hb158 ?_
      obtain ⟨hk159, h⟩ := ao_some h
      obtain ⟨p160, hp160, h⟩ := ao_bind h
      refine an_callVi r2 12 (q := (RX12, TX12, 83)) [.int (xs (x4 + (1 : Int32)).toNatClampNeg), .int (xs (x4 + (2 : Int32)).toNatClampNeg)] (aX12_had (d - 1) (by omega) _ r2 (xs (x4 + (1 : Int32)).toNatClampNeg) (xs (x4 + (2 : Int32)).toNatClampNeg) M ρ hp160) dL_law_657 lc_L_111 li_X12_had ls_X12_had rfl hk159 rfl rfl (Nat.le_of_ble_eq_true rfl) (lq_hR hd (by decide)) ?_
      refine an_topi (fun v161 hv161 => ?_)
      replace h := ao_letD h hv161
      refine ao_istore 6 (lo' := [some (.ref bS), some (.ref (Γ.2.2.2 + r1)), some (.ref (Γ.2.2.2 + r2)), some (.ref (Γ.2.2.2 + r3)), some (.int x4), some (.int s0), some (.int v161)]) dL_law_660 (Nat.le_of_ble_eq_true rfl) rfl ?_
      refine ao_aload_n 2 dL_law_662 rfl rfl ?_
      obtain ⟨p162, hp162, h⟩ := ao_bind h
      refine an_callVi r2 12 (q := (RX12, TX12, 83)) [] (aX12_thrown (d - 1) (by omega) r2 p160.2 ρ hp162) dL_law_663 lc_L_77 li_X12_thrown ls_X12_thrown rfl hk159 rfl rfl (Nat.le_of_ble_eq_true rfl) (lq_hR hd (by decide)) ?_
      refine ao_iload 5 dL_law_666 rfl ?_
      refine ao_icmp_eq 673 dL_law_668 (by decide) (fun c163 => ?_) (fun c163 => ?_)
      · replace h := ao_ifT h c163
        refine ao_iload 5 dL_law_673 rfl ?_
        refine ao_if_ne 690 dL_law_675 (by decide) (fun c164 => ?_) (fun c164 => ?_)
        · replace h := ao_ifF h c164
          exact ih.2.2.2.2.2.2.2.2.2.2.2.2.2.2.2.2.2.2.2.2.2.2.2.2.2.2.2.1 r1 r2 r3 x4 s0 v161 p162.2 ρ _ h hy
        · replace h := ao_ifT h c164
          refine ao_aload_n 3 dL_law_678 rfl rfl ?_
          refine ao_iconst (v := 0) dL_law_679 (by decide) ?_
          obtain ⟨hk165, h⟩ := ao_some h
          obtain ⟨hb166, h⟩ := ao_some h
          refine an_laload r3 dL_law_680 hk165 hb166 ?_
          refine ao_iload 6 dL_law_681 rfl ?_
          refine ao_i2l dL_law_683 ?_
          refine ao_lcmp dL_law_684 ?_
          refine ao_if_eq 690 dL_law_685 (by decide) (fun c167 => ?_) (fun c167 => ?_)
          · replace h := ao_ifT h c167
            exact ih.2.2.2.2.2.2.2.2.2.2.2.2.2.2.2.2.2.2.2.2.2.2.2.2.2.2.2.1 r1 r2 r3 x4 s0 v161 p162.2 ρ _ h hy
          · replace h := ao_ifF h c167
            refine ao_iconst (v := 0) dL_law_688 (by decide) ?_
            cases h
            exact absurd (show (0 : Int32) = 1 from hy) (by decide)
      · replace h := ao_ifF h c163
        refine ao_iconst (v := 0) dL_law_671 (by decide) ?_
        cases h
        exact absurd (show (0 : Int32) = 1 from hy) (by decide)
    · intro r1 r2 r3 x4 x5 x6 M ρ y h hy
      replace h := ao_ifF h (by decide)
      replace h := ao_ifF h (by decide)
      replace h := ao_ifF h (by decide)
      replace h := ao_ifF h (by decide)
      replace h := ao_ifF h (by decide)
      replace h := ao_ifF h (by decide)
      replace h := ao_ifF h (by decide)
      replace h := ao_ifF h (by decide)
      replace h := ao_ifF h (by decide)
      replace h := ao_ifF h (by decide)
      replace h := ao_ifF h (by decide)
      replace h := ao_ifF h (by decide)
      replace h := ao_ifF h (by decide)
      replace h := ao_ifF h (by decide)
      replace h := ao_ifF h (by decide)
      replace h := ao_ifF h (by decide)
      replace h := ao_ifF h (by decide)
      replace h := ao_ifF h (by decide)
      replace h := ao_ifF h (by decide)
      replace h := ao_ifF h (by decide)
      replace h := ao_ifF h (by decide)
      replace h := ao_ifF h (by decide)
      replace h := ao_ifF h (by decide)
      replace h := ao_ifF h (by decide)
      replace h := ao_ifF h (by decide)
      replace h := ao_ifF h (by decide)
      replace h := ao_ifF h (by decide)
      replace h := ao_ifT h rfl
      refine ao_goto 1106 dL_law_690 (by decide) ?_
      refine ao_loForget (lo' := [some (.ref bS), some (.ref (Γ.2.2.2 + r1)), some (.ref (Γ.2.2.2 + r2)), some (.ref (Γ.2.2.2 + r3)), some (.int x4), none, none]) (ao_fgS (ao_fgS (ao_fgS (ao_fgS (ao_fgS (ao_fgN (ao_fgN ao_fgZ))))))) ?_
      exact ih.2.2.2.2.2.2.2.2.2.2.2.2.2.2.2.2.2.2.2.2.2.2.2.2.2.2.2.2.2.2.2.2.2.2.2.2.2.2.2.2.2.2 r1 r2 r3 x4 M ρ _ h hy
    · intro r1 r2 r3 x4 s0 M ρ y h hy
      replace h := ao_ifF h (by decide)
      replace h := ao_ifF h (by decide)
      replace h := ao_ifF h (by decide)
      replace h := ao_ifF h (by decide)
      replace h := ao_ifF h (by decide)
      replace h := ao_ifF h (by decide)
      replace h := ao_ifF h (by decide)
      replace h := ao_ifF h (by decide)
      replace h := ao_ifF h (by decide)
      replace h := ao_ifF h (by decide)
      replace h := ao_ifF h (by decide)
      replace h := ao_ifF h (by decide)
      replace h := ao_ifF h (by decide)
      replace h := ao_ifF h (by decide)
      replace h := ao_ifF h (by decide)
      replace h := ao_ifF h (by decide)
      replace h := ao_ifF h (by decide)
      replace h := ao_ifF h (by decide)
      replace h := ao_ifF h (by decide)
      replace h := ao_ifF h (by decide)
      replace h := ao_ifF h (by decide)
      replace h := ao_ifF h (by decide)
      replace h := ao_ifF h (by decide)
      replace h := ao_ifF h (by decide)
      replace h := ao_ifF h (by decide)
      replace h := ao_ifF h (by decide)
      replace h := ao_ifF h (by decide)
      replace h := ao_ifF h (by decide)
      replace h := ao_ifT h rfl
      refine ao_istore 5 (lo' := [some (.ref bS), some (.ref (Γ.2.2.2 + r1)), some (.ref (Γ.2.2.2 + r2)), some (.ref (Γ.2.2.2 + r3)), some (.int x4), some (.int s0), none]) dL_law_710 (Nat.le_of_ble_eq_true rfl) rfl ?_
      refine ao_aload_n 2 dL_law_712 rfl rfl ?_
      refine ao_aload_n 0 dL_law_713 rfl rfl ?_
      refine ao_iload 4 dL_law_714 rfl ?_
      refine ao_iconst (v := 1) dL_law_716 (by decide) ?_
      refine ao_iadd dL_law_717 ?_
      obtain ⟨hb168, h⟩ := ao_some h
      refine lq_sld dL_law_718 hb168 ?_
      refine ao_aload_n 0 dL_law_719 rfl rfl ?_
      refine ao_iload 4 dL_law_720 rfl ?_
      refine ao_iconst (v := 2) dL_law_722 (by decide) ?_
      refine ao_iadd dL_law_723 ?_
      obtain ⟨hb169, h⟩ := ao_some h
      refine lq_sld dL_law_724 hb169 ?_
      obtain ⟨hk170, h⟩ := ao_some h
      obtain ⟨p171, hp171, h⟩ := ao_bind h
      refine an_callVi r2 12 (q := (RX12, TX12, 83)) [.int (xs (x4 + (1 : Int32)).toNatClampNeg), .int (xs (x4 + (2 : Int32)).toNatClampNeg)] (aX12_register (d - 1) (by omega) _ r2 (xs (x4 + (1 : Int32)).toNatClampNeg) (xs (x4 + (2 : Int32)).toNatClampNeg) M ρ hp171) dL_law_725 lc_L_114 li_X12_register ls_X12_register rfl hk170 rfl rfl (Nat.le_of_ble_eq_true rfl) (lq_hR hd (by decide)) ?_
      refine an_topi (fun v172 hv172 => ?_)
      replace h := ao_letD h hv172
      refine ao_istore 6 (lo' := [some (.ref bS), some (.ref (Γ.2.2.2 + r1)), some (.ref (Γ.2.2.2 + r2)), some (.ref (Γ.2.2.2 + r3)), some (.int x4), some (.int s0), some (.int v172)]) dL_law_728 (Nat.le_of_ble_eq_true rfl) rfl ?_
      refine ao_aload_n 2 dL_law_730 rfl rfl ?_
      obtain ⟨p173, hp173, h⟩ := ao_bind h
      refine an_callVi r2 12 (q := (RX12, TX12, 83)) [] (aX12_thrown (d - 1) (by omega) r2 p171.2 ρ hp173) dL_law_731 lc_L_77 li_X12_thrown ls_X12_thrown rfl hk170 rfl rfl (Nat.le_of_ble_eq_true rfl) (lq_hR hd (by decide)) ?_
      refine ao_iload 5 dL_law_734 rfl ?_
      refine ao_icmp_eq 741 dL_law_736 (by decide) (fun c174 => ?_) (fun c174 => ?_)
      · replace h := ao_ifT h c174
        refine ao_iload 5 dL_law_741 rfl ?_
        refine ao_if_ne 758 dL_law_743 (by decide) (fun c175 => ?_) (fun c175 => ?_)
        · replace h := ao_ifF h c175
          exact ih.2.2.2.2.2.2.2.2.2.2.2.2.2.2.2.2.2.2.2.2.2.2.2.2.2.2.2.2.2.1 r1 r2 r3 x4 s0 v172 p173.2 ρ _ h hy
        · replace h := ao_ifT h c175
          refine ao_aload_n 3 dL_law_746 rfl rfl ?_
          refine ao_iconst (v := 0) dL_law_747 (by decide) ?_
          obtain ⟨hk176, h⟩ := ao_some h
          obtain ⟨hb177, h⟩ := ao_some h
          refine an_laload r3 dL_law_748 hk176 hb177 ?_
          refine ao_iload 6 dL_law_749 rfl ?_
          refine ao_i2l dL_law_751 ?_
          refine ao_lcmp dL_law_752 ?_
          refine ao_if_eq 758 dL_law_753 (by decide) (fun c178 => ?_) (fun c178 => ?_)
          · replace h := ao_ifT h c178
            exact ih.2.2.2.2.2.2.2.2.2.2.2.2.2.2.2.2.2.2.2.2.2.2.2.2.2.2.2.2.2.1 r1 r2 r3 x4 s0 v172 p173.2 ρ _ h hy
          · replace h := ao_ifF h c178
            refine ao_iconst (v := 0) dL_law_756 (by decide) ?_
            cases h
            exact absurd (show (0 : Int32) = 1 from hy) (by decide)
      · replace h := ao_ifF h c174
        refine ao_iconst (v := 0) dL_law_739 (by decide) ?_
        cases h
        exact absurd (show (0 : Int32) = 1 from hy) (by decide)
    · intro r1 r2 r3 x4 x5 x6 M ρ y h hy
      replace h := ao_ifF h (by decide)
      replace h := ao_ifF h (by decide)
      replace h := ao_ifF h (by decide)
      replace h := ao_ifF h (by decide)
      replace h := ao_ifF h (by decide)
      replace h := ao_ifF h (by decide)
      replace h := ao_ifF h (by decide)
      replace h := ao_ifF h (by decide)
      replace h := ao_ifF h (by decide)
      replace h := ao_ifF h (by decide)
      replace h := ao_ifF h (by decide)
      replace h := ao_ifF h (by decide)
      replace h := ao_ifF h (by decide)
      replace h := ao_ifF h (by decide)
      replace h := ao_ifF h (by decide)
      replace h := ao_ifF h (by decide)
      replace h := ao_ifF h (by decide)
      replace h := ao_ifF h (by decide)
      replace h := ao_ifF h (by decide)
      replace h := ao_ifF h (by decide)
      replace h := ao_ifF h (by decide)
      replace h := ao_ifF h (by decide)
      replace h := ao_ifF h (by decide)
      replace h := ao_ifF h (by decide)
      replace h := ao_ifF h (by decide)
      replace h := ao_ifF h (by decide)
      replace h := ao_ifF h (by decide)
      replace h := ao_ifF h (by decide)
      replace h := ao_ifF h (by decide)
      replace h := ao_ifT h rfl
      refine ao_goto 1106 dL_law_758 (by decide) ?_
      refine ao_loForget (lo' := [some (.ref bS), some (.ref (Γ.2.2.2 + r1)), some (.ref (Γ.2.2.2 + r2)), some (.ref (Γ.2.2.2 + r3)), some (.int x4), none, none]) (ao_fgS (ao_fgS (ao_fgS (ao_fgS (ao_fgS (ao_fgN (ao_fgN ao_fgZ))))))) ?_
      exact ih.2.2.2.2.2.2.2.2.2.2.2.2.2.2.2.2.2.2.2.2.2.2.2.2.2.2.2.2.2.2.2.2.2.2.2.2.2.2.2.2.2.2 r1 r2 r3 x4 M ρ _ h hy
    · intro r1 r2 r3 x4 s0 s1 q2 M ρ y h hy
      replace h := ao_ifF h (by decide)
      replace h := ao_ifF h (by decide)
      replace h := ao_ifF h (by decide)
      replace h := ao_ifF h (by decide)
      replace h := ao_ifF h (by decide)
      replace h := ao_ifF h (by decide)
      replace h := ao_ifF h (by decide)
      replace h := ao_ifF h (by decide)
      replace h := ao_ifF h (by decide)
      replace h := ao_ifF h (by decide)
      replace h := ao_ifF h (by decide)
      replace h := ao_ifF h (by decide)
      replace h := ao_ifF h (by decide)
      replace h := ao_ifF h (by decide)
      replace h := ao_ifF h (by decide)
      replace h := ao_ifF h (by decide)
      replace h := ao_ifF h (by decide)
      replace h := ao_ifF h (by decide)
      replace h := ao_ifF h (by decide)
      replace h := ao_ifF h (by decide)
      replace h := ao_ifF h (by decide)
      replace h := ao_ifF h (by decide)
      replace h := ao_ifF h (by decide)
      replace h := ao_ifF h (by decide)
      replace h := ao_ifF h (by decide)
      replace h := ao_ifF h (by decide)
      replace h := ao_ifF h (by decide)
      replace h := ao_ifF h (by decide)
      replace h := ao_ifF h (by decide)
      replace h := ao_ifF h (by decide)
      replace h := ao_ifT h rfl
      refine ao_aload_n 3 dL_law_782 rfl rfl ?_
      obtain ⟨p179, hp179, h⟩ := ao_bind h
      refine lq_callSi [.ref (Γ.2.2.2 + q2), .int s1, .int s0, .ref (Γ.2.2.2 + r3)] (aL_said (d - 1) (by omega) n q2 s1 s0 r3 M ρ hp179) rfl dL_law_783 lh_L_115 lt_L_said rfl rfl (Nat.le_of_ble_eq_true rfl) (lq_hR hd (by decide)) (ao_leC (me_L_said n q2 s1 s0 r3 M ρ hp179) ((mL_law n).2.2.2.2.2.2.2.2.2.2.2.2.2.2.2.2.2.2.2.2.2.2.2.2.2.2.2.2.2.2.2.1 r1 r2 r3 x4 p179.1 p179.2.1 p179.2.2 _ h)) (ao_leS (me_L_said n q2 s1 s0 r3 M ρ hp179) ((mL_law n).2.2.2.2.2.2.2.2.2.2.2.2.2.2.2.2.2.2.2.2.2.2.2.2.2.2.2.2.2.2.2.1 r1 r2 r3 x4 p179.1 p179.2.1 p179.2.2 _ h)) ?_
      exact ih.2.2.2.2.2.2.2.2.2.2.2.2.2.2.2.2.2.2.2.2.2.2.2.2.2.2.2.2.2.2.2.1 r1 r2 r3 x4 p179.1 p179.2.1 p179.2.2 _ h hy
    · intro r1 r2 r3 x4 s0 M ρ y h hy
      replace h := ao_ifF h (by decide)
      replace h := ao_ifF h (by decide)
      replace h := ao_ifF h (by decide)
      replace h := ao_ifF h (by decide)
      replace h := ao_ifF h (by decide)
      replace h := ao_ifF h (by decide)
      replace h := ao_ifF h (by decide)
      replace h := ao_ifF h (by decide)
      replace h := ao_ifF h (by decide)
      replace h := ao_ifF h (by decide)
      replace h := ao_ifF h (by decide)
      replace h := ao_ifF h (by decide)
      replace h := ao_ifF h (by decide)
      replace h := ao_ifF h (by decide)
      replace h := ao_ifF h (by decide)
      replace h := ao_ifF h (by decide)
      replace h := ao_ifF h (by decide)
      replace h := ao_ifF h (by decide)
      replace h := ao_ifF h (by decide)
      replace h := ao_ifF h (by decide)
      replace h := ao_ifF h (by decide)
      replace h := ao_ifF h (by decide)
      replace h := ao_ifF h (by decide)
      replace h := ao_ifF h (by decide)
      replace h := ao_ifF h (by decide)
      replace h := ao_ifF h (by decide)
      replace h := ao_ifF h (by decide)
      replace h := ao_ifF h (by decide)
      replace h := ao_ifF h (by decide)
      replace h := ao_ifF h (by decide)
      replace h := ao_ifF h (by decide)
      replace h := ao_ifT h rfl
      refine ao_istore 5 (lo' := [some (.ref bS), some (.ref (Γ.2.2.2 + r1)), some (.ref (Γ.2.2.2 + r2)), some (.ref (Γ.2.2.2 + r3)), some (.int x4), some (.int s0), none]) dL_law_786 (Nat.le_of_ble_eq_true rfl) rfl ?_
      refine ao_aload_n 2 dL_law_788 rfl rfl ?_
      refine ao_aload_n 0 dL_law_789 rfl rfl ?_
      refine ao_iload 4 dL_law_790 rfl ?_
      refine ao_iconst (v := 1) dL_law_792 (by decide) ?_
      refine ao_iadd dL_law_793 ?_
      obtain ⟨hb180, h⟩ := ao_some h
      refine lq_sld dL_law_794 hb180 ?_
      refine ao_aload_n 0 dL_law_795 rfl rfl ?_
      refine ao_iload 4 dL_law_796 rfl ?_
      refine ao_iconst (v := 2) dL_law_798 (by decide) ?_
      refine ao_iadd dL_law_799 ?_
      obtain ⟨hb181, h⟩ := ao_some h
      refine lq_sld dL_law_800 hb181 ?_
      refine ao_if_eq 808 dL_law_801 (by decide) (fun c182 => ?_) (fun c182 => ?_)
      · replace h := ao_ifT h c182
        refine ao_iconst (v := 0) dL_law_808 (by decide) ?_
        exact ih.2.2.2.2.2.2.2.2.2.2.2.2.2.2.2.2.2.2.2.2.2.2.2.2.2.2.2.2.2.2.2.2.1 r1 r2 r3 x4 s0 (0 : Int32) (xs (x4 + (1 : Int32)).toNatClampNeg) r2 M ρ _ h hy
      · replace h := ao_ifF h c182
        refine ao_iconst (v := 1) dL_law_804 (by decide) ?_
        refine ao_goto 809 dL_law_805 (by decide) ?_
        exact ih.2.2.2.2.2.2.2.2.2.2.2.2.2.2.2.2.2.2.2.2.2.2.2.2.2.2.2.2.2.2.2.2.1 r1 r2 r3 x4 s0 (1 : Int32) (xs (x4 + (1 : Int32)).toNatClampNeg) r2 M ρ _ h hy
    · intro r1 r2 r3 x4 x5 s0 s1 q2 M ρ y h hy
      replace h := ao_ifF h (by decide)
      replace h := ao_ifF h (by decide)
      replace h := ao_ifF h (by decide)
      replace h := ao_ifF h (by decide)
      replace h := ao_ifF h (by decide)
      replace h := ao_ifF h (by decide)
      replace h := ao_ifF h (by decide)
      replace h := ao_ifF h (by decide)
      replace h := ao_ifF h (by decide)
      replace h := ao_ifF h (by decide)
      replace h := ao_ifF h (by decide)
      replace h := ao_ifF h (by decide)
      replace h := ao_ifF h (by decide)
      replace h := ao_ifF h (by decide)
      replace h := ao_ifF h (by decide)
      replace h := ao_ifF h (by decide)
      replace h := ao_ifF h (by decide)
      replace h := ao_ifF h (by decide)
      replace h := ao_ifF h (by decide)
      replace h := ao_ifF h (by decide)
      replace h := ao_ifF h (by decide)
      replace h := ao_ifF h (by decide)
      replace h := ao_ifF h (by decide)
      replace h := ao_ifF h (by decide)
      replace h := ao_ifF h (by decide)
      replace h := ao_ifF h (by decide)
      replace h := ao_ifF h (by decide)
      replace h := ao_ifF h (by decide)
      replace h := ao_ifF h (by decide)
      replace h := ao_ifF h (by decide)
      replace h := ao_ifF h (by decide)
      replace h := ao_ifF h (by decide)
      replace h := ao_ifT h rfl
      obtain ⟨hk183, h⟩ := ao_some h
      obtain ⟨p184, hp184, h⟩ := ao_bind h
      refine an_callVi q2 12 (q := (RX12, TX12, 83)) [.int s1, .int s0] (aX12_said (d - 1) (by omega) _ q2 s1 s0 M ρ hp184) dL_law_809 lc_L_118 li_X12_said ls_X12_said rfl hk183 rfl rfl (Nat.le_of_ble_eq_true rfl) (lq_hR hd (by decide)) ?_
      refine an_topi (fun v185 hv185 => ?_)
      replace h := ao_letD h hv185
      refine ao_istore 6 (lo' := [some (.ref bS), some (.ref (Γ.2.2.2 + r1)), some (.ref (Γ.2.2.2 + r2)), some (.ref (Γ.2.2.2 + r3)), some (.int x4), some (.int x5), some (.int v185)]) dL_law_812 (Nat.le_of_ble_eq_true rfl) rfl ?_
      refine ao_aload_n 2 dL_law_814 rfl rfl ?_
      obtain ⟨hk186, h⟩ := ao_some h
      obtain ⟨p187, hp187, h⟩ := ao_bind h
      refine an_callVi r2 12 (q := (RX12, TX12, 83)) [] (aX12_thrown (d - 1) (by omega) r2 p184.2 ρ hp187) dL_law_815 lc_L_77 li_X12_thrown ls_X12_thrown rfl hk186 rfl rfl (Nat.le_of_ble_eq_true rfl) (lq_hR hd (by decide)) ?_
      refine ao_iload 5 dL_law_818 rfl ?_
      refine ao_icmp_eq 825 dL_law_820 (by decide) (fun c188 => ?_) (fun c188 => ?_)
      · replace h := ao_ifT h c188
        refine ao_iload 5 dL_law_825 rfl ?_
        refine ao_if_ne 842 dL_law_827 (by decide) (fun c189 => ?_) (fun c189 => ?_)
        · replace h := ao_ifF h c189
          exact ih.2.2.2.2.2.2.2.2.2.2.2.2.2.2.2.2.2.2.2.2.2.2.2.2.2.2.2.2.2.2.2.2.2.1 r1 r2 r3 x4 x5 v185 p187.2 ρ _ h hy
        · replace h := ao_ifT h c189
          refine ao_aload_n 3 dL_law_830 rfl rfl ?_
          refine ao_iconst (v := 0) dL_law_831 (by decide) ?_
          obtain ⟨hk190, h⟩ := ao_some h
          obtain ⟨hb191, h⟩ := ao_some h
          refine an_laload r3 dL_law_832 hk190 hb191 ?_
          refine ao_iload 6 dL_law_833 rfl ?_
          refine ao_i2l dL_law_835 ?_
          refine ao_lcmp dL_law_836 ?_
          refine ao_if_eq 842 dL_law_837 (by decide) (fun c192 => ?_) (fun c192 => ?_)
          · replace h := ao_ifT h c192
            exact ih.2.2.2.2.2.2.2.2.2.2.2.2.2.2.2.2.2.2.2.2.2.2.2.2.2.2.2.2.2.2.2.2.2.1 r1 r2 r3 x4 x5 v185 p187.2 ρ _ h hy
          · replace h := ao_ifF h c192
            refine ao_iconst (v := 0) dL_law_840 (by decide) ?_
            cases h
            exact absurd (show (0 : Int32) = 1 from hy) (by decide)
      · replace h := ao_ifF h c188
        refine ao_iconst (v := 0) dL_law_823 (by decide) ?_
        cases h
        exact absurd (show (0 : Int32) = 1 from hy) (by decide)
    · intro r1 r2 r3 x4 x5 x6 M ρ y h hy
      replace h := ao_ifF h (by decide)
      replace h := ao_ifF h (by decide)
      replace h := ao_ifF h (by decide)
      replace h := ao_ifF h (by decide)
      replace h := ao_ifF h (by decide)
      replace h := ao_ifF h (by decide)
      replace h := ao_ifF h (by decide)
      replace h := ao_ifF h (by decide)
      replace h := ao_ifF h (by decide)
      replace h := ao_ifF h (by decide)
      replace h := ao_ifF h (by decide)
      replace h := ao_ifF h (by decide)
      replace h := ao_ifF h (by decide)
      replace h := ao_ifF h (by decide)
      replace h := ao_ifF h (by decide)
      replace h := ao_ifF h (by decide)
      replace h := ao_ifF h (by decide)
      replace h := ao_ifF h (by decide)
      replace h := ao_ifF h (by decide)
      replace h := ao_ifF h (by decide)
      replace h := ao_ifF h (by decide)
      replace h := ao_ifF h (by decide)
      replace h := ao_ifF h (by decide)
      replace h := ao_ifF h (by decide)
      replace h := ao_ifF h (by decide)
      replace h := ao_ifF h (by decide)
      replace h := ao_ifF h (by decide)
      replace h := ao_ifF h (by decide)
      replace h := ao_ifF h (by decide)
      replace h := ao_ifF h (by decide)
      replace h := ao_ifF h (by decide)
      replace h := ao_ifF h (by decide)
      replace h := ao_ifF h (by decide)
      replace h := ao_ifT h rfl
      refine ao_goto 1106 dL_law_842 (by decide) ?_
      refine ao_loForget (lo' := [some (.ref bS), some (.ref (Γ.2.2.2 + r1)), some (.ref (Γ.2.2.2 + r2)), some (.ref (Γ.2.2.2 + r3)), some (.int x4), none, none]) (ao_fgS (ao_fgS (ao_fgS (ao_fgS (ao_fgS (ao_fgN (ao_fgN ao_fgZ))))))) ?_
      exact ih.2.2.2.2.2.2.2.2.2.2.2.2.2.2.2.2.2.2.2.2.2.2.2.2.2.2.2.2.2.2.2.2.2.2.2.2.2.2.2.2.2.2 r1 r2 r3 x4 M ρ _ h hy
    · intro r1 r2 r3 x4 s0 M ρ y h hy
      replace h := ao_ifF h (by decide)
      replace h := ao_ifF h (by decide)
      replace h := ao_ifF h (by decide)
      replace h := ao_ifF h (by decide)
      replace h := ao_ifF h (by decide)
      replace h := ao_ifF h (by decide)
      replace h := ao_ifF h (by decide)
      replace h := ao_ifF h (by decide)
      replace h := ao_ifF h (by decide)
      replace h := ao_ifF h (by decide)
      replace h := ao_ifF h (by decide)
      replace h := ao_ifF h (by decide)
      replace h := ao_ifF h (by decide)
      replace h := ao_ifF h (by decide)
      replace h := ao_ifF h (by decide)
      replace h := ao_ifF h (by decide)
      replace h := ao_ifF h (by decide)
      replace h := ao_ifF h (by decide)
      replace h := ao_ifF h (by decide)
      replace h := ao_ifF h (by decide)
      replace h := ao_ifF h (by decide)
      replace h := ao_ifF h (by decide)
      replace h := ao_ifF h (by decide)
      replace h := ao_ifF h (by decide)
      replace h := ao_ifF h (by decide)
      replace h := ao_ifF h (by decide)
      replace h := ao_ifF h (by decide)
      replace h := ao_ifF h (by decide)
      replace h := ao_ifF h (by decide)
      replace h := ao_ifF h (by decide)
      replace h := ao_ifF h (by decide)
      replace h := ao_ifF h (by decide)
      replace h := ao_ifF h (by decide)
      replace h := ao_ifF h (by decide)
      replace h := ao_ifT h rfl
      refine ao_istore 5 (lo' := [some (.ref bS), some (.ref (Γ.2.2.2 + r1)), some (.ref (Γ.2.2.2 + r2)), some (.ref (Γ.2.2.2 + r3)), some (.int x4), some (.int s0), none]) dL_law_862 (Nat.le_of_ble_eq_true rfl) rfl ?_
      refine ao_aload_n 2 dL_law_864 rfl rfl ?_
      refine ao_aload_n 0 dL_law_865 rfl rfl ?_
      refine ao_iload 4 dL_law_866 rfl ?_
      refine ao_iconst (v := 1) dL_law_868 (by decide) ?_
      refine ao_iadd dL_law_869 ?_
      obtain ⟨hb193, h⟩ := ao_some h
      refine lq_sld dL_law_870 hb193 ?_
      refine ao_aload_n 0 dL_law_871 rfl rfl ?_
      refine ao_iload 4 dL_law_872 rfl ?_
      refine ao_iconst (v := 2) dL_law_874 (by decide) ?_
      refine ao_iadd dL_law_875 ?_
      obtain ⟨hb194, h⟩ := ao_some h
      refine lq_sld dL_law_876 hb194 ?_
      obtain ⟨hk195, h⟩ := ao_some h
      obtain ⟨p196, hp196, h⟩ := ao_bind h
      refine an_callVi r2 12 (q := (RX12, TX12, 83)) [.int (xs (x4 + (1 : Int32)).toNatClampNeg), .int (xs (x4 + (2 : Int32)).toNatClampNeg)] (aX12_look (d - 1) (by omega) _ r2 (xs (x4 + (1 : Int32)).toNatClampNeg) (xs (x4 + (2 : Int32)).toNatClampNeg) M ρ hp196) dL_law_877 lc_L_121 li_X12_look ls_X12_look rfl hk195 rfl rfl (Nat.le_of_ble_eq_true rfl) (lq_hR hd (by decide)) ?_
      refine an_topi (fun v197 hv197 => ?_)
      replace h := ao_letD h hv197
      refine ao_istore 6 (lo' := [some (.ref bS), some (.ref (Γ.2.2.2 + r1)), some (.ref (Γ.2.2.2 + r2)), some (.ref (Γ.2.2.2 + r3)), some (.int x4), some (.int s0), some (.int v197)]) dL_law_880 (Nat.le_of_ble_eq_true rfl) rfl ?_
      refine ao_aload_n 2 dL_law_882 rfl rfl ?_
      obtain ⟨p198, hp198, h⟩ := ao_bind h
      refine an_callVi r2 12 (q := (RX12, TX12, 83)) [] (aX12_thrown (d - 1) (by omega) r2 p196.2 ρ hp198) dL_law_883 lc_L_77 li_X12_thrown ls_X12_thrown rfl hk195 rfl rfl (Nat.le_of_ble_eq_true rfl) (lq_hR hd (by decide)) ?_
      refine ao_iload 5 dL_law_886 rfl ?_
      refine ao_icmp_eq 893 dL_law_888 (by decide) (fun c199 => ?_) (fun c199 => ?_)
      · replace h := ao_ifT h c199
        refine ao_iload 5 dL_law_893 rfl ?_
        refine ao_if_ne 910 dL_law_895 (by decide) (fun c200 => ?_) (fun c200 => ?_)
        · replace h := ao_ifF h c200
          exact ih.2.2.2.2.2.2.2.2.2.2.2.2.2.2.2.2.2.2.2.2.2.2.2.2.2.2.2.2.2.2.2.2.2.2.2.1 r1 r2 r3 x4 s0 v197 p198.2 ρ _ h hy
        · replace h := ao_ifT h c200
          refine ao_aload_n 3 dL_law_898 rfl rfl ?_
          refine ao_iconst (v := 0) dL_law_899 (by decide) ?_
          obtain ⟨hk201, h⟩ := ao_some h
          obtain ⟨hb202, h⟩ := ao_some h
          refine an_laload r3 dL_law_900 hk201 hb202 ?_
          refine ao_iload 6 dL_law_901 rfl ?_
          refine ao_i2l dL_law_903 ?_
          refine ao_lcmp dL_law_904 ?_
          refine ao_if_eq 910 dL_law_905 (by decide) (fun c203 => ?_) (fun c203 => ?_)
          · replace h := ao_ifT h c203
            exact ih.2.2.2.2.2.2.2.2.2.2.2.2.2.2.2.2.2.2.2.2.2.2.2.2.2.2.2.2.2.2.2.2.2.2.2.1 r1 r2 r3 x4 s0 v197 p198.2 ρ _ h hy
          · replace h := ao_ifF h c203
            refine ao_iconst (v := 0) dL_law_908 (by decide) ?_
            cases h
            exact absurd (show (0 : Int32) = 1 from hy) (by decide)
      · replace h := ao_ifF h c199
        refine ao_iconst (v := 0) dL_law_891 (by decide) ?_
        cases h
        exact absurd (show (0 : Int32) = 1 from hy) (by decide)
    · intro r1 r2 r3 x4 x5 x6 M ρ y h hy
      replace h := ao_ifF h (by decide)
      replace h := ao_ifF h (by decide)
      replace h := ao_ifF h (by decide)
      replace h := ao_ifF h (by decide)
      replace h := ao_ifF h (by decide)
      replace h := ao_ifF h (by decide)
      replace h := ao_ifF h (by decide)
      replace h := ao_ifF h (by decide)
      replace h := ao_ifF h (by decide)
      replace h := ao_ifF h (by decide)
      replace h := ao_ifF h (by decide)
      replace h := ao_ifF h (by decide)
      replace h := ao_ifF h (by decide)
      replace h := ao_ifF h (by decide)
      replace h := ao_ifF h (by decide)
      replace h := ao_ifF h (by decide)
      replace h := ao_ifF h (by decide)
      replace h := ao_ifF h (by decide)
      replace h := ao_ifF h (by decide)
      replace h := ao_ifF h (by decide)
      replace h := ao_ifF h (by decide)
      replace h := ao_ifF h (by decide)
      replace h := ao_ifF h (by decide)
      replace h := ao_ifF h (by decide)
      replace h := ao_ifF h (by decide)
      replace h := ao_ifF h (by decide)
      replace h := ao_ifF h (by decide)
      replace h := ao_ifF h (by decide)
      replace h := ao_ifF h (by decide)
      replace h := ao_ifF h (by decide)
      replace h := ao_ifF h (by decide)
      replace h := ao_ifF h (by decide)
      replace h := ao_ifF h (by decide)
      replace h := ao_ifF h (by decide)
      replace h := ao_ifF h (by decide)
      replace h := ao_ifT h rfl
      refine ao_goto 1106 dL_law_910 (by decide) ?_
      refine ao_loForget (lo' := [some (.ref bS), some (.ref (Γ.2.2.2 + r1)), some (.ref (Γ.2.2.2 + r2)), some (.ref (Γ.2.2.2 + r3)), some (.int x4), none, none]) (ao_fgS (ao_fgS (ao_fgS (ao_fgS (ao_fgS (ao_fgN (ao_fgN ao_fgZ))))))) ?_
      exact ih.2.2.2.2.2.2.2.2.2.2.2.2.2.2.2.2.2.2.2.2.2.2.2.2.2.2.2.2.2.2.2.2.2.2.2.2.2.2.2.2.2.2 r1 r2 r3 x4 M ρ _ h hy
    · intro r1 r2 r3 x4 s0 M ρ y h hy
      replace h := ao_ifF h (by decide)
      replace h := ao_ifF h (by decide)
      replace h := ao_ifF h (by decide)
      replace h := ao_ifF h (by decide)
      replace h := ao_ifF h (by decide)
      replace h := ao_ifF h (by decide)
      replace h := ao_ifF h (by decide)
      replace h := ao_ifF h (by decide)
      replace h := ao_ifF h (by decide)
      replace h := ao_ifF h (by decide)
      replace h := ao_ifF h (by decide)
      replace h := ao_ifF h (by decide)
      replace h := ao_ifF h (by decide)
      replace h := ao_ifF h (by decide)
      replace h := ao_ifF h (by decide)
      replace h := ao_ifF h (by decide)
      replace h := ao_ifF h (by decide)
      replace h := ao_ifF h (by decide)
      replace h := ao_ifF h (by decide)
      replace h := ao_ifF h (by decide)
      replace h := ao_ifF h (by decide)
      replace h := ao_ifF h (by decide)
      replace h := ao_ifF h (by decide)
      replace h := ao_ifF h (by decide)
      replace h := ao_ifF h (by decide)
      replace h := ao_ifF h (by decide)
      replace h := ao_ifF h (by decide)
      replace h := ao_ifF h (by decide)
      replace h := ao_ifF h (by decide)
      replace h := ao_ifF h (by decide)
      replace h := ao_ifF h (by decide)
      replace h := ao_ifF h (by decide)
      replace h := ao_ifF h (by decide)
      replace h := ao_ifF h (by decide)
      replace h := ao_ifF h (by decide)
      replace h := ao_ifF h (by decide)
      replace h := ao_ifT h rfl
      refine ao_istore 5 (lo' := [some (.ref bS), some (.ref (Γ.2.2.2 + r1)), some (.ref (Γ.2.2.2 + r2)), some (.ref (Γ.2.2.2 + r3)), some (.int x4), some (.int s0), none]) dL_law_937 (Nat.le_of_ble_eq_true rfl) rfl ?_
      refine ao_aload_n 2 dL_law_939 rfl rfl ?_
      refine ao_aload_n 0 dL_law_940 rfl rfl ?_
      refine ao_iload 4 dL_law_941 rfl ?_
      refine ao_iconst (v := 1) dL_law_943 (by decide) ?_
      refine ao_iadd dL_law_944 ?_
      obtain ⟨hb204, h⟩ := ao_some h
      refine lq_sld dL_law_945 hb204 ?_
      obtain ⟨hk205, h⟩ := ao_some h
      obtain ⟨p206, hp206, h⟩ := ao_bind h
      refine an_callVi r2 12 (q := (RX12, TX12, 83)) [.int (xs (x4 + (1 : Int32)).toNatClampNeg)] (aX12_order (d - 1) (by omega) _ r2 (xs (x4 + (1 : Int32)).toNatClampNeg) M ρ hp206) dL_law_946 lc_L_128 li_X12_order ls_X12_order rfl hk205 rfl rfl (Nat.le_of_ble_eq_true rfl) (lq_hR hd (by decide)) ?_
      refine an_topi (fun v207 hv207 => ?_)
      replace h := ao_letD h hv207
      refine ao_istore 6 (lo' := [some (.ref bS), some (.ref (Γ.2.2.2 + r1)), some (.ref (Γ.2.2.2 + r2)), some (.ref (Γ.2.2.2 + r3)), some (.int x4), some (.int s0), some (.int v207)]) dL_law_949 (Nat.le_of_ble_eq_true rfl) rfl ?_
      refine ao_aload_n 2 dL_law_951 rfl rfl ?_
      obtain ⟨p208, hp208, h⟩ := ao_bind h
      refine an_callVi r2 12 (q := (RX12, TX12, 83)) [] (aX12_thrown (d - 1) (by omega) r2 p206.2 ρ hp208) dL_law_952 lc_L_77 li_X12_thrown ls_X12_thrown rfl hk205 rfl rfl (Nat.le_of_ble_eq_true rfl) (lq_hR hd (by decide)) ?_
      refine ao_iload 5 dL_law_955 rfl ?_
      refine ao_icmp_eq 962 dL_law_957 (by decide) (fun c209 => ?_) (fun c209 => ?_)
      · replace h := ao_ifT h c209
        refine ao_iload 5 dL_law_962 rfl ?_
        refine ao_if_ne 979 dL_law_964 (by decide) (fun c210 => ?_) (fun c210 => ?_)
        · replace h := ao_ifF h c210
          exact ih.2.2.2.2.2.2.2.2.2.2.2.2.2.2.2.2.2.2.2.2.2.2.2.2.2.2.2.2.2.2.2.2.2.2.2.2.2.1 r1 r2 r3 x4 s0 v207 p208.2 ρ _ h hy
        · replace h := ao_ifT h c210
          refine ao_aload_n 3 dL_law_967 rfl rfl ?_
          refine ao_iconst (v := 0) dL_law_968 (by decide) ?_
          obtain ⟨hk211, h⟩ := ao_some h
          obtain ⟨hb212, h⟩ := ao_some h
          refine an_laload r3 dL_law_969 hk211 hb212 ?_
          refine ao_iload 6 dL_law_970 rfl ?_
          refine ao_i2l dL_law_972 ?_
          refine ao_lcmp dL_law_973 ?_
          refine ao_if_eq 979 dL_law_974 (by decide) (fun c213 => ?_) (fun c213 => ?_)
          · replace h := ao_ifT h c213
            exact ih.2.2.2.2.2.2.2.2.2.2.2.2.2.2.2.2.2.2.2.2.2.2.2.2.2.2.2.2.2.2.2.2.2.2.2.2.2.1 r1 r2 r3 x4 s0 v207 p208.2 ρ _ h hy
          · replace h := ao_ifF h c213
            refine ao_iconst (v := 0) dL_law_977 (by decide) ?_
            cases h
            exact absurd (show (0 : Int32) = 1 from hy) (by decide)
      · replace h := ao_ifF h c209
        refine ao_iconst (v := 0) dL_law_960 (by decide) ?_
        cases h
        exact absurd (show (0 : Int32) = 1 from hy) (by decide)
    · intro r1 r2 r3 x4 x5 x6 M ρ y h hy
      replace h := ao_ifF h (by decide)
      replace h := ao_ifF h (by decide)
      replace h := ao_ifF h (by decide)
      replace h := ao_ifF h (by decide)
      replace h := ao_ifF h (by decide)
      replace h := ao_ifF h (by decide)
      replace h := ao_ifF h (by decide)
      replace h := ao_ifF h (by decide)
      replace h := ao_ifF h (by decide)
      replace h := ao_ifF h (by decide)
      replace h := ao_ifF h (by decide)
      replace h := ao_ifF h (by decide)
      replace h := ao_ifF h (by decide)
      replace h := ao_ifF h (by decide)
      replace h := ao_ifF h (by decide)
      replace h := ao_ifF h (by decide)
      replace h := ao_ifF h (by decide)
      replace h := ao_ifF h (by decide)
      replace h := ao_ifF h (by decide)
      replace h := ao_ifF h (by decide)
      replace h := ao_ifF h (by decide)
      replace h := ao_ifF h (by decide)
      replace h := ao_ifF h (by decide)
      replace h := ao_ifF h (by decide)
      replace h := ao_ifF h (by decide)
      replace h := ao_ifF h (by decide)
      replace h := ao_ifF h (by decide)
      replace h := ao_ifF h (by decide)
      replace h := ao_ifF h (by decide)
      replace h := ao_ifF h (by decide)
      replace h := ao_ifF h (by decide)
      replace h := ao_ifF h (by decide)
      replace h := ao_ifF h (by decide)
      replace h := ao_ifF h (by decide)
      replace h := ao_ifF h (by decide)
      replace h := ao_ifF h (by decide)
      replace h := ao_ifF h (by decide)
      replace h := ao_ifT h rfl
      refine ao_goto 1106 dL_law_979 (by decide) ?_
      refine ao_loForget (lo' := [some (.ref bS), some (.ref (Γ.2.2.2 + r1)), some (.ref (Γ.2.2.2 + r2)), some (.ref (Γ.2.2.2 + r3)), some (.int x4), none, none]) (ao_fgS (ao_fgS (ao_fgS (ao_fgS (ao_fgS (ao_fgN (ao_fgN ao_fgZ))))))) ?_
      exact ih.2.2.2.2.2.2.2.2.2.2.2.2.2.2.2.2.2.2.2.2.2.2.2.2.2.2.2.2.2.2.2.2.2.2.2.2.2.2.2.2.2.2 r1 r2 r3 x4 M ρ _ h hy
    · intro r1 r2 r3 x4 s0 M ρ y h hy
      replace h := ao_ifF h (by decide)
      replace h := ao_ifF h (by decide)
      replace h := ao_ifF h (by decide)
      replace h := ao_ifF h (by decide)
      replace h := ao_ifF h (by decide)
      replace h := ao_ifF h (by decide)
      replace h := ao_ifF h (by decide)
      replace h := ao_ifF h (by decide)
      replace h := ao_ifF h (by decide)
      replace h := ao_ifF h (by decide)
      replace h := ao_ifF h (by decide)
      replace h := ao_ifF h (by decide)
      replace h := ao_ifF h (by decide)
      replace h := ao_ifF h (by decide)
      replace h := ao_ifF h (by decide)
      replace h := ao_ifF h (by decide)
      replace h := ao_ifF h (by decide)
      replace h := ao_ifF h (by decide)
      replace h := ao_ifF h (by decide)
      replace h := ao_ifF h (by decide)
      replace h := ao_ifF h (by decide)
      replace h := ao_ifF h (by decide)
      replace h := ao_ifF h (by decide)
      replace h := ao_ifF h (by decide)
      replace h := ao_ifF h (by decide)
      replace h := ao_ifF h (by decide)
      replace h := ao_ifF h (by decide)
      replace h := ao_ifF h (by decide)
      replace h := ao_ifF h (by decide)
      replace h := ao_ifF h (by decide)
      replace h := ao_ifF h (by decide)
      replace h := ao_ifF h (by decide)
      replace h := ao_ifF h (by decide)
      replace h := ao_ifF h (by decide)
      replace h := ao_ifF h (by decide)
      replace h := ao_ifF h (by decide)
      replace h := ao_ifF h (by decide)
      replace h := ao_ifF h (by decide)
      replace h := ao_ifT h rfl
      refine ao_istore 5 (lo' := [some (.ref bS), some (.ref (Γ.2.2.2 + r1)), some (.ref (Γ.2.2.2 + r2)), some (.ref (Γ.2.2.2 + r3)), some (.int x4), some (.int s0), none]) dL_law_999 (Nat.le_of_ble_eq_true rfl) rfl ?_
      refine ao_aload_n 2 dL_law_1001 rfl rfl ?_
      refine ao_aload_n 0 dL_law_1002 rfl rfl ?_
      refine ao_iload 4 dL_law_1003 rfl ?_
      refine ao_iconst (v := 1) dL_law_1005 (by decide) ?_
      refine ao_iadd dL_law_1006 ?_
      obtain ⟨hb214, h⟩ := ao_some h
      refine lq_sld dL_law_1007 hb214 ?_
      refine ao_aload_n 0 dL_law_1008 rfl rfl ?_
      refine ao_iload 4 dL_law_1009 rfl ?_
      refine ao_iconst (v := 2) dL_law_1011 (by decide) ?_
      refine ao_iadd dL_law_1012 ?_
      obtain ⟨hb215, h⟩ := ao_some h
      refine lq_sld dL_law_1013 hb215 ?_
      obtain ⟨hk216, h⟩ := ao_some h
      obtain ⟨p217, hp217, h⟩ := ao_bind h
      refine an_callVi r2 12 (q := (RX12, TX12, 83)) [.int (xs (x4 + (1 : Int32)).toNatClampNeg), .int (xs (x4 + (2 : Int32)).toNatClampNeg)] (aX12_record (d - 1) (by omega) _ r2 (xs (x4 + (1 : Int32)).toNatClampNeg) (xs (x4 + (2 : Int32)).toNatClampNeg) M ρ hp217) dL_law_1014 lc_L_131 li_X12_record ls_X12_record rfl hk216 rfl rfl (Nat.le_of_ble_eq_true rfl) (lq_hR hd (by decide)) ?_
      refine an_topi (fun v218 hv218 => ?_)
      replace h := ao_letD h hv218
      refine ao_istore 6 (lo' := [some (.ref bS), some (.ref (Γ.2.2.2 + r1)), some (.ref (Γ.2.2.2 + r2)), some (.ref (Γ.2.2.2 + r3)), some (.int x4), some (.int s0), some (.int v218)]) dL_law_1017 (Nat.le_of_ble_eq_true rfl) rfl ?_
      refine ao_aload_n 2 dL_law_1019 rfl rfl ?_
      obtain ⟨p219, hp219, h⟩ := ao_bind h
      refine an_callVi r2 12 (q := (RX12, TX12, 83)) [] (aX12_thrown (d - 1) (by omega) r2 p217.2 ρ hp219) dL_law_1020 lc_L_77 li_X12_thrown ls_X12_thrown rfl hk216 rfl rfl (Nat.le_of_ble_eq_true rfl) (lq_hR hd (by decide)) ?_
      refine ao_iload 5 dL_law_1023 rfl ?_
      refine ao_icmp_eq 1030 dL_law_1025 (by decide) (fun c220 => ?_) (fun c220 => ?_)
      · replace h := ao_ifT h c220
        refine ao_iload 5 dL_law_1030 rfl ?_
        refine ao_if_ne 1047 dL_law_1032 (by decide) (fun c221 => ?_) (fun c221 => ?_)
        · replace h := ao_ifF h c221
          exact ih.2.2.2.2.2.2.2.2.2.2.2.2.2.2.2.2.2.2.2.2.2.2.2.2.2.2.2.2.2.2.2.2.2.2.2.2.2.2.2.1 r1 r2 r3 x4 s0 v218 p219.2 ρ _ h hy
        · replace h := ao_ifT h c221
          refine ao_aload_n 3 dL_law_1035 rfl rfl ?_
          refine ao_iconst (v := 0) dL_law_1036 (by decide) ?_
          obtain ⟨hk222, h⟩ := ao_some h
          obtain ⟨hb223, h⟩ := ao_some h
          refine an_laload r3 dL_law_1037 hk222 hb223 ?_
          refine ao_iload 6 dL_law_1038 rfl ?_
          refine ao_i2l dL_law_1040 ?_
          refine ao_lcmp dL_law_1041 ?_
          refine ao_if_eq 1047 dL_law_1042 (by decide) (fun c224 => ?_) (fun c224 => ?_)
          · replace h := ao_ifT h c224
            exact ih.2.2.2.2.2.2.2.2.2.2.2.2.2.2.2.2.2.2.2.2.2.2.2.2.2.2.2.2.2.2.2.2.2.2.2.2.2.2.2.1 r1 r2 r3 x4 s0 v218 p219.2 ρ _ h hy
          · replace h := ao_ifF h c224
            refine ao_iconst (v := 0) dL_law_1045 (by decide) ?_
            cases h
            exact absurd (show (0 : Int32) = 1 from hy) (by decide)
      · replace h := ao_ifF h c220
        refine ao_iconst (v := 0) dL_law_1028 (by decide) ?_
        cases h
        exact absurd (show (0 : Int32) = 1 from hy) (by decide)
    · intro r1 r2 r3 x4 x5 x6 M ρ y h hy
      replace h := ao_ifF h (by decide)
      replace h := ao_ifF h (by decide)
      replace h := ao_ifF h (by decide)
      replace h := ao_ifF h (by decide)
      replace h := ao_ifF h (by decide)
      replace h := ao_ifF h (by decide)
      replace h := ao_ifF h (by decide)
      replace h := ao_ifF h (by decide)
      replace h := ao_ifF h (by decide)
      replace h := ao_ifF h (by decide)
      replace h := ao_ifF h (by decide)
      replace h := ao_ifF h (by decide)
      replace h := ao_ifF h (by decide)
      replace h := ao_ifF h (by decide)
      replace h := ao_ifF h (by decide)
      replace h := ao_ifF h (by decide)
      replace h := ao_ifF h (by decide)
      replace h := ao_ifF h (by decide)
      replace h := ao_ifF h (by decide)
      replace h := ao_ifF h (by decide)
      replace h := ao_ifF h (by decide)
      replace h := ao_ifF h (by decide)
      replace h := ao_ifF h (by decide)
      replace h := ao_ifF h (by decide)
      replace h := ao_ifF h (by decide)
      replace h := ao_ifF h (by decide)
      replace h := ao_ifF h (by decide)
      replace h := ao_ifF h (by decide)
      replace h := ao_ifF h (by decide)
      replace h := ao_ifF h (by decide)
      replace h := ao_ifF h (by decide)
      replace h := ao_ifF h (by decide)
      replace h := ao_ifF h (by decide)
      replace h := ao_ifF h (by decide)
      replace h := ao_ifF h (by decide)
      replace h := ao_ifF h (by decide)
      replace h := ao_ifF h (by decide)
      replace h := ao_ifF h (by decide)
      replace h := ao_ifF h (by decide)
      replace h := ao_ifT h rfl
      refine ao_goto 1106 dL_law_1047 (by decide) ?_
      refine ao_loForget (lo' := [some (.ref bS), some (.ref (Γ.2.2.2 + r1)), some (.ref (Γ.2.2.2 + r2)), some (.ref (Γ.2.2.2 + r3)), some (.int x4), none, none]) (ao_fgS (ao_fgS (ao_fgS (ao_fgS (ao_fgS (ao_fgN (ao_fgN ao_fgZ))))))) ?_
      exact ih.2.2.2.2.2.2.2.2.2.2.2.2.2.2.2.2.2.2.2.2.2.2.2.2.2.2.2.2.2.2.2.2.2.2.2.2.2.2.2.2.2.2 r1 r2 r3 x4 M ρ _ h hy
    · intro r1 r2 r3 x4 s0 M ρ y h hy
      replace h := ao_ifF h (by decide)
      replace h := ao_ifF h (by decide)
      replace h := ao_ifF h (by decide)
      replace h := ao_ifF h (by decide)
      replace h := ao_ifF h (by decide)
      replace h := ao_ifF h (by decide)
      replace h := ao_ifF h (by decide)
      replace h := ao_ifF h (by decide)
      replace h := ao_ifF h (by decide)
      replace h := ao_ifF h (by decide)
      replace h := ao_ifF h (by decide)
      replace h := ao_ifF h (by decide)
      replace h := ao_ifF h (by decide)
      replace h := ao_ifF h (by decide)
      replace h := ao_ifF h (by decide)
      replace h := ao_ifF h (by decide)
      replace h := ao_ifF h (by decide)
      replace h := ao_ifF h (by decide)
      replace h := ao_ifF h (by decide)
      replace h := ao_ifF h (by decide)
      replace h := ao_ifF h (by decide)
      replace h := ao_ifF h (by decide)
      replace h := ao_ifF h (by decide)
      replace h := ao_ifF h (by decide)
      replace h := ao_ifF h (by decide)
      replace h := ao_ifF h (by decide)
      replace h := ao_ifF h (by decide)
      replace h := ao_ifF h (by decide)
      replace h := ao_ifF h (by decide)
      replace h := ao_ifF h (by decide)
      replace h := ao_ifF h (by decide)
      replace h := ao_ifF h (by decide)
      replace h := ao_ifF h (by decide)
      replace h := ao_ifF h (by decide)
      replace h := ao_ifF h (by decide)
      replace h := ao_ifF h (by decide)
      replace h := ao_ifF h (by decide)
      replace h := ao_ifF h (by decide)
      replace h := ao_ifF h (by decide)
      replace h := ao_ifF h (by decide)
      replace h := ao_ifT h rfl
      refine ao_istore 5 (lo' := [some (.ref bS), some (.ref (Γ.2.2.2 + r1)), some (.ref (Γ.2.2.2 + r2)), some (.ref (Γ.2.2.2 + r3)), some (.int x4), some (.int s0), none]) dL_law_1061 (Nat.le_of_ble_eq_true rfl) rfl ?_
      refine ao_aload_n 2 dL_law_1063 rfl rfl ?_
      refine ao_aload_n 0 dL_law_1064 rfl rfl ?_
      refine ao_iload 4 dL_law_1065 rfl ?_
      refine ao_iconst (v := 1) dL_law_1067 (by decide) ?_
      refine ao_iadd dL_law_1068 ?_
      obtain ⟨hb225, h⟩ := ao_some h
      refine lq_sld dL_law_1069 hb225 ?_
      obtain ⟨hk226, h⟩ := ao_some h
      obtain ⟨p227, hp227, h⟩ := ao_bind h
      refine an_callVi r2 12 (q := (RX12, TX12, 83)) [.int (xs (x4 + (1 : Int32)).toNatClampNeg)] (aX12_count (d - 1) (by omega) _ r2 (xs (x4 + (1 : Int32)).toNatClampNeg) M ρ hp227) dL_law_1070 lc_L_134 li_X12_count ls_X12_count rfl hk226 rfl rfl (Nat.le_of_ble_eq_true rfl) (lq_hR hd (by decide)) ?_
      refine an_topi (fun v228 hv228 => ?_)
      replace h := ao_letD h hv228
      refine ao_istore 6 (lo' := [some (.ref bS), some (.ref (Γ.2.2.2 + r1)), some (.ref (Γ.2.2.2 + r2)), some (.ref (Γ.2.2.2 + r3)), some (.int x4), some (.int s0), some (.int v228)]) dL_law_1073 (Nat.le_of_ble_eq_true rfl) rfl ?_
      refine ao_aload_n 2 dL_law_1075 rfl rfl ?_
      obtain ⟨p229, hp229, h⟩ := ao_bind h
      refine an_callVi r2 12 (q := (RX12, TX12, 83)) [] (aX12_thrown (d - 1) (by omega) r2 p227.2 ρ hp229) dL_law_1076 lc_L_77 li_X12_thrown ls_X12_thrown rfl hk226 rfl rfl (Nat.le_of_ble_eq_true rfl) (lq_hR hd (by decide)) ?_
      refine ao_iload 5 dL_law_1079 rfl ?_
      refine ao_icmp_eq 1086 dL_law_1081 (by decide) (fun c230 => ?_) (fun c230 => ?_)
      · replace h := ao_ifT h c230
        refine ao_iload 5 dL_law_1086 rfl ?_
        refine ao_if_ne 1103 dL_law_1088 (by decide) (fun c231 => ?_) (fun c231 => ?_)
        · replace h := ao_ifF h c231
          exact ih.2.2.2.2.2.2.2.2.2.2.2.2.2.2.2.2.2.2.2.2.2.2.2.2.2.2.2.2.2.2.2.2.2.2.2.2.2.2.2.2.2.1 r1 r2 r3 x4 s0 v228 p229.2 ρ _ h hy
        · replace h := ao_ifT h c231
          refine ao_aload_n 3 dL_law_1091 rfl rfl ?_
          refine ao_iconst (v := 0) dL_law_1092 (by decide) ?_
          obtain ⟨hk232, h⟩ := ao_some h
          obtain ⟨hb233, h⟩ := ao_some h
          refine an_laload r3 dL_law_1093 hk232 hb233 ?_
          refine ao_iload 6 dL_law_1094 rfl ?_
          refine ao_i2l dL_law_1096 ?_
          refine ao_lcmp dL_law_1097 ?_
          refine ao_if_eq 1103 dL_law_1098 (by decide) (fun c234 => ?_) (fun c234 => ?_)
          · replace h := ao_ifT h c234
            exact ih.2.2.2.2.2.2.2.2.2.2.2.2.2.2.2.2.2.2.2.2.2.2.2.2.2.2.2.2.2.2.2.2.2.2.2.2.2.2.2.2.2.1 r1 r2 r3 x4 s0 v228 p229.2 ρ _ h hy
          · replace h := ao_ifF h c234
            refine ao_iconst (v := 0) dL_law_1101 (by decide) ?_
            cases h
            exact absurd (show (0 : Int32) = 1 from hy) (by decide)
      · replace h := ao_ifF h c230
        refine ao_iconst (v := 0) dL_law_1084 (by decide) ?_
        cases h
        exact absurd (show (0 : Int32) = 1 from hy) (by decide)
    · intro r1 r2 r3 x4 x5 x6 M ρ y h hy
      replace h := ao_ifF h (by decide)
      replace h := ao_ifF h (by decide)
      replace h := ao_ifF h (by decide)
      replace h := ao_ifF h (by decide)
      replace h := ao_ifF h (by decide)
      replace h := ao_ifF h (by decide)
      replace h := ao_ifF h (by decide)
      replace h := ao_ifF h (by decide)
      replace h := ao_ifF h (by decide)
      replace h := ao_ifF h (by decide)
      replace h := ao_ifF h (by decide)
      replace h := ao_ifF h (by decide)
      replace h := ao_ifF h (by decide)
      replace h := ao_ifF h (by decide)
      replace h := ao_ifF h (by decide)
      replace h := ao_ifF h (by decide)
      replace h := ao_ifF h (by decide)
      replace h := ao_ifF h (by decide)
      replace h := ao_ifF h (by decide)
      replace h := ao_ifF h (by decide)
      replace h := ao_ifF h (by decide)
      replace h := ao_ifF h (by decide)
      replace h := ao_ifF h (by decide)
      replace h := ao_ifF h (by decide)
      replace h := ao_ifF h (by decide)
      replace h := ao_ifF h (by decide)
      replace h := ao_ifF h (by decide)
      replace h := ao_ifF h (by decide)
      replace h := ao_ifF h (by decide)
      replace h := ao_ifF h (by decide)
      replace h := ao_ifF h (by decide)
      replace h := ao_ifF h (by decide)
      replace h := ao_ifF h (by decide)
      replace h := ao_ifF h (by decide)
      replace h := ao_ifF h (by decide)
      replace h := ao_ifF h (by decide)
      replace h := ao_ifF h (by decide)
      replace h := ao_ifF h (by decide)
      replace h := ao_ifF h (by decide)
      replace h := ao_ifF h (by decide)
      replace h := ao_ifF h (by decide)
      replace h := ao_ifT h rfl
      refine ao_goto 1106 dL_law_1103 (by decide) ?_
      refine ao_loForget (lo' := [some (.ref bS), some (.ref (Γ.2.2.2 + r1)), some (.ref (Γ.2.2.2 + r2)), some (.ref (Γ.2.2.2 + r3)), some (.int x4), none, none]) (ao_fgS (ao_fgS (ao_fgS (ao_fgS (ao_fgS (ao_fgN (ao_fgN ao_fgZ))))))) ?_
      exact ih.2.2.2.2.2.2.2.2.2.2.2.2.2.2.2.2.2.2.2.2.2.2.2.2.2.2.2.2.2.2.2.2.2.2.2.2.2.2.2.2.2.2 r1 r2 r3 x4 M ρ _ h hy
    · intro r1 r2 r3 x4 M ρ y h hy
      replace h := ao_ifF h (by decide)
      replace h := ao_ifF h (by decide)
      replace h := ao_ifF h (by decide)
      replace h := ao_ifF h (by decide)
      replace h := ao_ifF h (by decide)
      replace h := ao_ifF h (by decide)
      replace h := ao_ifF h (by decide)
      replace h := ao_ifF h (by decide)
      replace h := ao_ifF h (by decide)
      replace h := ao_ifF h (by decide)
      replace h := ao_ifF h (by decide)
      replace h := ao_ifF h (by decide)
      replace h := ao_ifF h (by decide)
      replace h := ao_ifF h (by decide)
      replace h := ao_ifF h (by decide)
      replace h := ao_ifF h (by decide)
      replace h := ao_ifF h (by decide)
      replace h := ao_ifF h (by decide)
      replace h := ao_ifF h (by decide)
      replace h := ao_ifF h (by decide)
      replace h := ao_ifF h (by decide)
      replace h := ao_ifF h (by decide)
      replace h := ao_ifF h (by decide)
      replace h := ao_ifF h (by decide)
      replace h := ao_ifF h (by decide)
      replace h := ao_ifF h (by decide)
      replace h := ao_ifF h (by decide)
      replace h := ao_ifF h (by decide)
      replace h := ao_ifF h (by decide)
      replace h := ao_ifF h (by decide)
      replace h := ao_ifF h (by decide)
      replace h := ao_ifF h (by decide)
      replace h := ao_ifF h (by decide)
      replace h := ao_ifF h (by decide)
      replace h := ao_ifF h (by decide)
      replace h := ao_ifF h (by decide)
      replace h := ao_ifF h (by decide)
      replace h := ao_ifF h (by decide)
      replace h := ao_ifF h (by decide)
      replace h := ao_ifF h (by decide)
      replace h := ao_ifF h (by decide)
      replace h := ao_ifF h (by decide)
      replace h := ao_ifT h rfl
      obtain ⟨v235, hv235⟩ : ∃ z : Int32, z = x4 + (6 : Int32) := ⟨_, rfl⟩
      replace h := ao_letD h hv235
      refine ao_iinc 4 (v := v235) (lo' := [some (.ref bS), some (.ref (Γ.2.2.2 + r1)), some (.ref (Γ.2.2.2 + r2)), some (.ref (Γ.2.2.2 + r3)), some (.int v235), none, none]) dL_law_1106 rfl (by rw [hv235]; rfl) (Nat.le_of_ble_eq_true rfl) rfl ?_
      refine ao_goto 23 dL_law_1109 (by decide) ?_
      exact ih.2.2.2.2.2.2.1 r1 r2 r3 v235 M ρ _ h hy
