set_option linter.unusedSimpArgs false
set_option linter.unusedVariables false
/-! ===== the reference takes back, and drops its reads ===== -/
def mkD (D : ao_M) (t j p : Nat) : Bool := !decide (D 578 ((t * 12 + j) * 26 + p) = 0)
def wvD (D : ao_M) (t j p : Nat) : Int32 := D 582 ((t * 12 + j) * 26 + p)
/-- one level taken back -/
def dBack (e : Bool) (t l : Nat) (D : ao_M) : ao_M := fun a i => if a = 542 ∧ i < 26 ∧ e = true ∧ mkD D t l i = true then wvD D t l i else if a = 578 ∧ (t * 12 + l) * 26 ≤ i ∧ i < (t * 12 + l) * 26 + 26 then 0 else if a = 553 ∧ t * 26 ≤ i ∧ i < t * 26 + 26 then D 575 ((t * 12 + l) * 26 + (i - t * 26)) else if a = 584 ∧ i = t * 12 + l then 0 else D a i
theorem dv_back {σ : ao_H} (hs : ShD σ) {t l : Nat} (ht : t < 6) (hl : l < 12) (D : ao_M) {Q : ao_M → Prop} (q : Q (dBack (decide (D 537 27 = 3 ∨ D 537 27 = 4)) t l D)) : hv (fun n => gX12_takeBack n 537 (nI t) (nI l) D σ) Q := by
  by_cases h : D 537 27 = 3 ∨ D 537 27 = 4
  · refine dv_backE hs ht hl D h ?_
    rw [show dBackE t l D = dBack (decide (D 537 27 = 3 ∨ D 537 27 = 4)) t l D from ?_]
    · exact q
    · funext a i
      simp [dBackE, dBack, h, mkD, wvD]
  · refine dv_backL hs ht hl D h ?_
    rw [show dBackL t l D = dBack (decide (D 537 27 = 3 ∨ D 537 27 = 4)) t l D from ?_]
    · exact q
    · funext a i
      simp [dBackL, dBack, h]
/-- levels l .. l + m - 1 taken back, but for their reads -/
def dTB (e : Bool) (t l m : Nat) (D : ao_M) : ao_M := fun a i =>
  if a = 542 ∧ i < 26 ∧ e = true then gbv (mkD D t) (wvD D t) (D 542) l m i
  else if a = 578 ∧ (t * 12 + l) * 26 ≤ i ∧ i < (t * 12 + (l + m)) * 26 then 0
  else if a = 553 ∧ t * 26 ≤ i ∧ i < t * 26 + 26 ∧ 0 < m then D 575 ((t * 12 + l) * 26 + (i - t * 26))
  else if a = 584 ∧ t * 12 + l ≤ i ∧ i < t * 12 + (l + m) then 0
  else if a = 555 ∧ i = t then 0 else D a i
theorem dTB_step {t l m : Nat} {D D1 : ao_M} {e : Bool} (hb : ∀ a i, a ≠ 577 → a ≠ 579 → a ≠ 580 → a ≠ 581 → a ≠ 537 → D1 a i = dBack e t (l + m) D a i) {a i : Nat} (ha : a ≠ 577 ∧ a ≠ 579 ∧ a ≠ 580 ∧ a ≠ 581 ∧ a ≠ 537) : dTB e t l m D1 a i = dTB e t l (m + 1) D a i := by
  have h578 : ∀ j p, j < l + m → p < 26 → D1 578 ((t * 12 + j) * 26 + p) = D 578 ((t * 12 + j) * 26 + p) := by
    intro j p h1 h2
    rw [hb _ _ (by omega) (by omega) (by omega) (by omega) (by omega)]
    unfold dBack
    rw [if_neg (by omega), if_neg (by omega), if_neg (by omega), if_neg (by omega)]
  have h582 : ∀ k, D1 582 k = D 582 k := by
    intro k
    rw [hb _ _ (by omega) (by omega) (by omega) (by omega) (by omega)]
    unfold dBack
    rw [if_neg (by omega), if_neg (by omega), if_neg (by omega), if_neg (by omega)]
  have h575 : ∀ k, D1 575 k = D 575 k := by
    intro k
    rw [hb _ _ (by omega) (by omega) (by omega) (by omega) (by omega)]
    unfold dBack
    rw [if_neg (by omega), if_neg (by omega), if_neg (by omega), if_neg (by omega)]
  have h542 : ∀ k, k < 26 → D1 542 k = if e = true ∧ mkD D t (l + m) k = true then wvD D t (l + m) k else D 542 k := by
    intro k hk
    rw [hb _ _ (by omega) (by omega) (by omega) (by omega) (by omega)]
    unfold dBack
    by_cases x : e = true ∧ mkD D t (l + m) k = true
    · rw [if_pos ⟨rfl, hk, x.1, x.2⟩, if_pos x]
    · rw [if_neg (fun y => x ⟨y.2.2.1, y.2.2.2⟩), if_neg (by omega), if_neg (by omega), if_neg (by omega), if_neg x]
  unfold dTB
  by_cases e1 : a = 542 ∧ i < 26
  · obtain ⟨rfl, hi⟩ := e1
    by_cases he : e = true
    · rw [if_pos ⟨rfl, hi, he⟩, if_pos ⟨rfl, hi, he⟩, gbv_snoc]
      refine gbv_congr m l (fun j h1 h2 => ⟨?_, fun _ => ?_⟩) ?_
      · unfold mkD
        rw [h578 j i (by omega) hi]
      · unfold wvD
        rw [h582]
      · rw [h542 i hi]
        simp [he]
    · have hn : ∀ X : Prop, ¬ (X ∧ i < 26 ∧ e = true) := fun X x => he x.2.2
      rw [if_neg (hn _), if_neg (hn _), if_neg (by omega), if_neg (by omega), if_neg (by omega), if_neg (by omega), if_neg (by omega), if_neg (by omega), if_neg (by omega), if_neg (by omega), h542 i hi, if_neg (fun x => he x.1)]
  · have n1 : ¬ (a = 542 ∧ i < 26 ∧ e = true) := fun x => e1 ⟨x.1, x.2.1⟩
    have n2 : ¬ (a = 542 ∧ i < 26 ∧ e = true ∧ mkD D t (l + m) i = true) := fun x => e1 ⟨x.1, x.2.1⟩
    simp only [if_neg n1]
    rw [h575, hb a i ha.1 ha.2.1 ha.2.2.1 ha.2.2.2.1 ha.2.2.2.2]
    unfold dBack
    simp only [if_neg n2]
    clear hb h578 h582 h575 h542
    by_cases q1 : a = 578
    · subst q1
      grind (splits := 20)
    · by_cases q2 : a = 553
      · subst q2
        by_cases q3 : t * 26 ≤ i ∧ i < t * 26 + 26
        · by_cases q4 : 0 < m
          · grind (splits := 20)
          · obtain rfl : m = 0 := by omega
            grind (splits := 20)
        · grind (splits := 20)
      · by_cases q5 : a = 584
        · subst q5
          grind (splits := 20)
        · grind (splits := 20)
/-- with reads dropped -/
def dTBd (e : Bool) (t l m : Nat) (D : ao_M) : ao_M := fun a i => if a = 577 ∧ (t * 12 + l) * 26 ≤ i ∧ i < (t * 12 + (l + m)) * 26 then 0 else dTB e t l m D a i
theorem d_tbL {σ : ao_H} (hs : ShD σ) {t l : Nat} (ht : t < 6) (hl : l < 10) (e : Bool) : ∀ (m : Nat) (D : ao_M), l + m ≤ 10 → decide (D 537 27 = 3 ∨ D 537 27 = 4) = e →
    hv (fun n => fX12_takeBackTo n 10 537 (nI t) (nI l) 0 (nI (l + m) - 1) D σ) (fun D' => D' = dTBd e t l m D) := by
  intro m
  induction m with
  | zero =>
    intro D hm he
    refine hv_up (fun _ => fX12_takeBackTo.eq_2 ..) ?_
    simp only [Nat.add_zero, ↓reduceIte, Nat.reduceEqDiff, pre_lt l (by omega), hs, Option.bind_some, ao_let]
    try simp only [↓reduceIte, Nat.reduceEqDiff, Option.bind_some, ao_let]
    try simp (disch := first | omega | assumption) only [↓reduceIte, Nat.reduceEqDiff, Option.bind_some, ao_let, t_le, f_le, t_lt, f_lt, f_eq, u_eq, u_n1, u_n2, n_cl, n_lt, n_le, n_eq, n_ltl, n_llt, n_lel, n_lle, n_eql, n_leq, n_add, n_mul, n_sub, n_addl, n_ladd, n_mull, n_lmul, n_subl, Int32.reduceLT, Int32.reduceLE, Int32.reduceAdd, Int32.reduceSub, Int32.reduceMul, Int32.reduceToNatClampNeg, not_false_eq_true, not_true_eq_false, or_false, false_or, or_self, and_self, false_and, true_and, and_false, and_true, true_or, or_true, Nat.reduceAdd, Nat.reduceMul, Nat.reduceLT, Nat.reduceLeDiff, ne_eq]
    refine hv_some ?_
    funext a i
    simp only [dTBd, dTB, gbv, ao_u, Nat.add_zero]
    clear hs he
    by_cases q1 : a = 542
    · subst q1
      grind (splits := 20)
    · grind (splits := 20)
  | succ m ih =>
    intro D hm he
    refine hv_up (fun _ => fX12_takeBackTo.eq_2 ..) ?_
    try simp only [↓reduceIte, Nat.reduceEqDiff, Option.bind_some, ao_let, hs]
    try simp (disch := first | omega | assumption) only [↓reduceIte, Nat.reduceEqDiff, Option.bind_some, ao_let, t_le, f_le, t_lt, f_lt, f_eq, u_eq, u_n1, u_n2, n_cl, n_lt, n_le, n_eq, n_ltl, n_llt, n_lel, n_lle, n_eql, n_leq, n_add, n_mul, n_sub, n_addl, n_ladd, n_mull, n_lmul, n_subl, Int32.reduceLT, Int32.reduceLE, Int32.reduceAdd, Int32.reduceSub, Int32.reduceMul, Int32.reduceToNatClampNeg, not_false_eq_true, not_true_eq_false, or_false, false_or, or_self, and_self, false_and, true_and, and_false, and_true, true_or, or_true, Nat.reduceAdd, Nat.reduceMul, Nat.reduceLT, Nat.reduceLeDiff, ne_eq, hs]
    refine hv_bind (P := fun y => y = _) (dv_back hs ht (by omega) D rfl) ?_
    rintro _ rfl
    rw [he]
    refine hv_bind (P := fun y => y = _) (dv_drop hs ht (by omega) _ rfl) ?_
    rintro _ rfl
    refine hv_up (fun _ => fX12_takeBackTo.eq_2 ..) ?_
    try simp only [↓reduceIte, Nat.reduceEqDiff, Option.bind_some, ao_let, hs]
    try simp (disch := first | omega | assumption) only [↓reduceIte, Nat.reduceEqDiff, Option.bind_some, ao_let, t_le, f_le, t_lt, f_lt, f_eq, u_eq, u_n1, u_n2, n_cl, n_lt, n_le, n_eq, n_ltl, n_llt, n_lel, n_lle, n_eql, n_leq, n_add, n_mul, n_sub, n_addl, n_ladd, n_mull, n_lmul, n_subl, Int32.reduceLT, Int32.reduceLE, Int32.reduceAdd, Int32.reduceSub, Int32.reduceMul, Int32.reduceToNatClampNeg, not_false_eq_true, not_true_eq_false, or_false, false_or, or_self, and_self, false_and, true_and, and_false, and_true, true_or, or_true, Nat.reduceAdd, Nat.reduceMul, Nat.reduceLT, Nat.reduceLeDiff, ne_eq, hs]
    rw [dec_m1]
    refine hv_mono (ih _ (by omega) ?_) ?_
    · rw [← he]
      simp [dDrop, dBack]
    · rintro _ rfl
      funext a i
      unfold dTBd
      by_cases e7 : a = 577
      · subst e7
        simp only [true_and]
        by_cases q : (t * 12 + l) * 26 ≤ i ∧ i < (t * 12 + (l + (m + 1))) * 26
        · rw [if_pos q]
          by_cases q2 : (t * 12 + l) * 26 ≤ i ∧ i < (t * 12 + (l + m)) * 26
          · rw [if_pos q2]
          · rw [if_neg q2]
            unfold dTB
            rw [if_neg (by omega), if_neg (by omega), if_neg (by omega), if_neg (by omega), if_neg (by omega)]
            unfold dDrop
            rw [if_pos (by omega)]
        · rw [if_neg q, if_neg (by omega)]
          unfold dTB
          rw [if_neg (by omega), if_neg (by omega), if_neg (by omega), if_neg (by omega), if_neg (by omega), if_neg (by omega), if_neg (by omega), if_neg (by omega), if_neg (by omega), if_neg (by omega)]
          unfold dDrop dBack
          rw [if_neg (by omega), if_neg (by omega), if_neg (by omega), if_neg (by omega), if_neg (by omega)]
      · rw [if_neg (fun x => e7 x.1), if_neg (fun x => e7 x.1)]
        by_cases e9 : a ≠ 577 ∧ a ≠ 579 ∧ a ≠ 580 ∧ a ≠ 581 ∧ a ≠ 537
        · refine dTB_step ?_ e9
          intro a i h1 h2 h3 h4 h5
          unfold dDrop
          rw [if_neg (by omega), show l + (m + 1) - 1 = l + m by omega]
        · unfold dTB
          rw [if_neg (by omega), if_neg (by omega), if_neg (by omega), if_neg (by omega), if_neg (by omega), if_neg (by omega), if_neg (by omega), if_neg (by omega), if_neg (by omega), if_neg (by omega)]
          unfold dDrop dBack
          rw [if_neg (by omega), if_neg (by omega), if_neg (by omega), if_neg (by omega), if_neg (by omega)]
theorem d_tbd {σ : ao_H} (hs : ShD σ) {t l dp : Nat} (ht : t < 6) (hl : l < dp) (hd : dp ≤ 10) (D : ao_M) (h8 : D 556 t = nI dp) {Q : ao_M → Prop} (q : Q (dTBd (decide (D 537 27 = 3 ∨ D 537 27 = 4)) t l (dp - l) D)) : hv (fun n => gX12_takeBackTo n 537 (nI t) (nI l) 0 D σ) Q := by
  unfold gX12_takeBackTo
  refine hv_up (fun _ => fX12_takeBackTo.eq_2 ..) ?_
  simp (disch := omega) only [↓reduceIte, hs, ao_let, n_ltl, n_cl, f_lt, f_le, or_self, not_false_eq_true, Option.bind_some, h8]
  refine hv_mono ?_ (fun y (hy : y = dTBd (decide (D 537 27 = 3 ∨ D 537 27 = 4)) t l (dp - l) D) => hy ▸ q)
  have := d_tbL hs ht (show l < 10 by omega) (decide (D 537 27 = 3 ∨ D 537 27 = 4)) (dp - l) D (by omega) rfl
  rw [show l + (dp - l) = dp by omega] at this
  exact this
