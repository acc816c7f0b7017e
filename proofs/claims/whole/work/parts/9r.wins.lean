set_option linter.unusedSimpArgs false
set_option linter.unusedVariables false
section Tou
variable {C D : ao_M} {ρ σ : ao_H} {kp rc nw bw br t len kd a1 a2 a3 : Nat} {φ : Nat → Nat} {N : Ns} {H K : Nat → Nat} {l : List (Nat × Nat)}
theorem md_b {P : Nat → Prop} (hF : FullP P C ρ D σ kp rc nw bw br) (hM : Md C ρ D rc t len kd a1 a2 a3 φ N H K l) : (∃ w, w ≤ 4 ∧ C 12 5 = nI w ∧ D 537 27 = nI w) ∧ (∀ j p, j < nl l → p < 26 → D 577 ((t * 12 + j) * 26 + p) = 0 ∨ D 577 ((t * 12 + j) * 26 + p) = 1) ∧ (∀ p, p < 26 → D 544 p = -1 ∨ ∃ u, u < 6 ∧ D 544 p = nI u) ∧ nl l ≤ 10 := by
  obtain ⟨-, f5, ⟨f6, ⟨w, f7, f7'⟩, fX⟩, -⟩ := hF
  obtain ⟨m1, m2, -, m4, m5, ⟨m6, m7, m8⟩, mI⟩ := hM
  refine ⟨⟨w, f7, by rw [f6]; exact f7', f7'⟩, fun j p hj hp => ?_, fun p hp => ?_, by have := @nl_le l; omega⟩
  · obtain ⟨-, -, -, ⟨ps, vs, ws, -, o, d1, -⟩⟩ := mI.2.1 j hj
    rw [d1 p hp]
    by_cases e : p ∈ ps
    · rw [if_pos e]; exact Or.inr rfl
    · rw [if_neg e]; exact Or.inl rfl
  · obtain ⟨f, g, h, pc, pd, ch, ev, ec⟩ := f5
    obtain ⟨v1, v2, v3, v4, v5, v6, v7⟩ := ev p hp
    rw [← v3]; exact v6
theorem wl_P {P : Nat → Prop} (hF : FullP P C ρ D σ kp rc nw bw br) (ht : t < 6) (hM : Md C ρ D rc t len kd a1 a2 a3 φ N H K l) {Q : Int32 × ao_M → Prop} (q : ∀ x, FW D t 0 (nl l) x → Q (x, D)) : hv (fun n => gX12_wrongLevel n 537 (nI t) D σ) Q := by
  obtain ⟨⟨w, w1, w2, w3⟩, b1, b2, b3⟩ := md_b hF hM
  exact d_wl hF.1.2.2.2 ht b3 w3 w1 hM.2.2.1.2.2.2.2.2.2.2.2 b1 b2 q
theorem ow_P {P : Nat → Prop} (hF : FullP P C ρ D σ kp rc nw bw br) (ht : t < 6) (hM : Md C ρ D rc t len kd a1 a2 a3 φ N H K l) (hn : ¬ (D 537 27 = 1 ∧ D 537 26 = D 560 t)) {Q : Int32 × ao_M → Prop} (q : ∀ x, FW D t 0 (nl l) x → Q (x, C)) : hv (fun n => gX2_outermostWrong n 12 (92 + 71 * t) C ρ) Q := by
  obtain ⟨⟨w, w1, w2, w3⟩, b1, b2, b3⟩ := md_b hF hM
  obtain ⟨⟨f1, f2, -, -⟩, f5, -⟩ := hF
  obtain ⟨-, -, ⟨g1, g2, g3, g4, g5, g6, g7, g8, g9⟩, -, -, -, mI⟩ := hM
  refine c_ow f1 f2 ht b3 w2 w3 w1 f5 mI.1 g3 g7 (fun j hj => (mI.2.1 j hj).2.2.2) (fun x => hn ⟨by rw [w3, x.1]; rfl, x.2⟩) q
theorem FW_r {dp : Nat} {x : Int32} (h : FW D t 0 dp x) (hd : dp ≤ 10) : x = -1 ∨ ∃ j, j < dp ∧ x = nI j := by
  rcases h with ⟨j, h1, h2, h3, h4, h5⟩ | ⟨h1, h2⟩
  · exact Or.inr ⟨j, h2, h3⟩
  · exact Or.inl h1
theorem n_g1 : ((-1 : Int32) < 0) = True := by decide
theorem n_g2 : ((0 : Int32) ≤ -1) = False := by decide
/-- a restart of t itself, in the whole -/
theorem rst_M {k : Nat} (hF : FullP (fun u => u ≠ t) C ρ D σ kp rc nw bw br) (ht : t < 6) (hM : Md C ρ D rc t len kd a1 a2 a3 φ N H K l) (hk : k < nl l) :
    hv (fun n => gX2_restart n 12 (92 + 71 * t) (nI k) C ρ) (fun y => hv (fun n => gX12_restart n 537 (nI t) (nI k) D σ) (fun w => ∃ kp', Full y.1 y.2 w.1 w.2 kp' rc nw bw br)) := by
  refine hv_mono (rst_P hF ht hM hk) (fun y hy => hv_mono hy ?_)
  rintro w ⟨kp', h1, h2, -, -⟩
  exact ⟨kp', P_Full h1 ht h2⟩
theorem conf_P {x : Int32} (hF : FullP (fun u => u ≠ t) C ρ D σ kp rc nw bw br) (ht : t < 6) (hM : Md C ρ D rc t len kd a1 a2 a3 φ N H K l) (hx : FW D t 0 (nl l) x) :
    hv (fun n => gX2_restart n 12 (92 + 71 * t) (if x < 0 then C (92 + 71 * t) 8 - 1 else x) C ρ) (fun y => hv (fun n => gX12_conflict n 537 (nI t) D σ) (fun w => ∃ kp', Full y.1 y.2 w.1 w.2 kp' rc nw bw br)) := by
  obtain ⟨⟨w, w1, w2, w3⟩, b1, b2, b3⟩ := md_b hF hM
  have f4 := hF.1.2.2.2
  have h8 := hM.2.2.2.2.2.2.1
  have h56 := hM.2.2.1.2.2.2.2.2.2.2.2
  have m8 := hM.2.2.2.2.2.1.2.2
  obtain ⟨d, ed⟩ : ∃ d, nl l = d + 1 := ⟨nl l - 1, by omega⟩
  have dco : ∀ {Q : ao_S → Prop} {k : Nat}, (x = -1 ∧ k = d ∨ x = nI k ∧ k < nl l) → hv (fun n => gX12_restart n 537 (nI t) (nI k) D σ) Q → hv (fun n => gX12_conflict n 537 (nI t) D σ) Q := by
    intro Q k hk hq
    unfold gX12_conflict
    refine hv_up (fun _ => fX12_conflict.eq_2 ..) ?_
    simp only [↓reduceIte, f4]
    refine hv_bind (P := fun y => y = (x, D)) (wl_P hF ht hM (fun x' hx' => by rw [FW_un hx hx'])) ?_
    rintro _ rfl
    have fin : hv (fun n => fX12_conflict n 24 537 (nI t) x (nI k) (nI t) 537 D σ) Q := by
      refine hv_up (fun _ => fX12_conflict.eq_2 ..) ?_
      simp only [↓reduceIte, Nat.reduceEqDiff, f4]
      refine hv_bind hq ?_
      intro y hy
      refine hv_up (fun _ => fX12_conflict.eq_2 ..) ?_
      try simp only [↓reduceIte, Nat.reduceEqDiff, Option.bind_some, ao_let, n_ell]
      try simp (disch := first | omega | assumption) only [↓reduceIte, Nat.reduceEqDiff, Option.bind_some, ao_let, t_le, f_le, t_lt, f_lt, f_eq, u_eq, u_n1, u_n2, n_cl, n_lt, n_le, n_eq, n_ltl, n_llt, n_lel, n_lle, n_eql, n_leq, n_add, n_mul, n_sub, n_addl, n_ladd, n_mull, n_lmul, n_subl, Int32.reduceLT, Int32.reduceLE, Int32.reduceAdd, Int32.reduceSub, Int32.reduceMul, Int32.reduceToNatClampNeg, not_false_eq_true, not_true_eq_false, or_false, false_or, or_self, and_self, false_and, true_and, and_false, and_true, true_or, or_true, Nat.reduceAdd, Nat.reduceMul, Nat.reduceLT, Nat.reduceLeDiff, ne_eq, n_ell]
      exact hv_some hy
    rcases hk with ⟨rfl, rfl⟩ | ⟨rfl, hk⟩
    · simp (disch := omega) only [n_g2, ↓reduceIte, ao_let, f4, Option.bind_some, n_ltl, n_cl, f_lt, f_le, or_self, not_false_eq_true, h56, ed, n_pre]
      exact fin
    · simp (disch := omega) only [ao_let, n_lle, Nat.zero_le, ↓reduceIte, t_le]
      exact fin
  rcases FW_r hx b3 with rfl | ⟨j, hj, rfl⟩
  · simp only [n_g1, ↓reduceIte, h8, ed, n_pre]
    refine hv_mono (rst_M hF ht hM (show d < nl l by omega)) (fun y hy => ?_)
    exact dco (Or.inl ⟨rfl, rfl⟩) hy
  · simp (disch := omega) only [n_ltl, f_lt, ↓reduceIte]
    refine hv_mono (rst_M hF ht hM hj) (fun y hy => ?_)
    exact dco (Or.inr ⟨rfl, hj⟩) hy
theorem goes_P {x : Int32} (hF : FullP (fun u => u ≠ t) C ρ D σ kp rc nw bw br) (ht : t < 6) (hM : Md C ρ D rc t len kd a1 a2 a3 φ N H K l) (hx : FW D t 0 (nl l) x) :
    hv (fun n => gX2_restart n 12 (92 + 71 * t) x C ρ) (fun y => hv (fun n => gX12_goesOn n 537 (nI t) D σ) (fun w => x = -1 ∧ y = (C, ρ) ∧ w = (1, D, σ) ∨ ¬ x < 0 ∧ 0 ≤ x ∧ w.1 = 0 ∧ ∃ kp', Full y.1 y.2 w.2.1 w.2.2 kp' rc nw bw br)) := by
  obtain ⟨⟨w, w1, w2, w3⟩, b1, b2, b3⟩ := md_b hF hM
  have f4 := hF.1.2.2.2
  have hcf := conf_P hF ht hM hx
  rcases FW_r hx b3 with rfl | ⟨j, hj, rfl⟩
  · clear hcf
    unfold gX2_restart
    refine hv_up (fun _ => fX2_restart.eq_2 ..) ?_
    simp only [↓reduceIte, n_g1]
    refine hv_some ?_
    unfold gX12_goesOn
    refine hv_up (fun _ => fX12_goesOn.eq_2 ..) ?_
    simp only [↓reduceIte, f4]
    refine hv_bind (P := fun y => y = (-1, D)) (wl_P hF ht hM (fun x' hx' => by rw [FW_un hx hx'])) ?_
    rintro _ rfl
    simp only [n_g2, ↓reduceIte]
    exact hv_some (by simp)
  · have hjl : ¬ nI j < 0 := by simp (disch := omega) only [n_ltl, f_lt, not_false_eq_true]
    have hjl2 : (0 : Int32) ≤ nI j := by simp (disch := omega) only [n_lle, t_le]
    simp only [hjl, ↓reduceIte] at hcf
    refine hv_mono hcf (fun y hy => ?_)
    unfold gX12_goesOn
    refine hv_up (fun _ => fX12_goesOn.eq_2 ..) ?_
    simp only [↓reduceIte, f4]
    refine hv_bind (P := fun y => y = (nI j, D)) (wl_P hF ht hM (fun x' hx' => by rw [FW_un hx hx'])) ?_
    rintro _ rfl
    simp only [hjl2, ↓reduceIte]
    refine hv_bind hy ?_
    intro z hz
    refine hv_up (fun _ => fX12_goesOn.eq_2 ..) ?_
    try simp only [↓reduceIte, Nat.reduceEqDiff, Option.bind_some, ao_let, n_ell]
    try simp (disch := first | omega | assumption) only [↓reduceIte, Nat.reduceEqDiff, Option.bind_some, ao_let, t_le, f_le, t_lt, f_lt, f_eq, u_eq, u_n1, u_n2, n_cl, n_lt, n_le, n_eq, n_ltl, n_llt, n_lel, n_lle, n_eql, n_leq, n_add, n_mul, n_sub, n_addl, n_ladd, n_mull, n_lmul, n_subl, Int32.reduceLT, Int32.reduceLE, Int32.reduceAdd, Int32.reduceSub, Int32.reduceMul, Int32.reduceToNatClampNeg, not_false_eq_true, not_true_eq_false, or_false, false_or, or_self, and_self, false_and, true_and, and_false, and_true, true_or, or_true, Nat.reduceAdd, Nat.reduceMul, Nat.reduceLT, Nat.reduceLeDiff, ne_eq, n_ell]
    exact hv_some (Or.inr ⟨rfl, hz⟩)
/-- what stays of t when another thread restarts -/
def Sty (t : Nat) (C D : ao_M) (C' D' : ao_M) : Prop := inC t C C' ∧ inD t D D' ∧ C' 12 5 = C 12 5
theorem d_wins {o p go gt : Nat} (f4 : ShD σ) (ht : t < 6) (ho : o < 6) (hp : p < 26) (hw : D 537 27 = 3) (e4 : D 544 p = nI o) (eo : o ≠ t) (y2 : D 563 t = nI gt) (z2 : D 563 o = nI go) (b1 : gt < 100000) (b2 : go < 100000) {Q : Int32 × ao_S → Prop} (q1 : go ≤ gt → hv (fun n => gX12_restart n 537 (nI t) 0 D σ) (fun w => Q (0, w))) (q2 : ¬ go ≤ gt → hv (fun n => gX12_restart n 537 (nI o) 0 D σ) (fun w => Q (1, w))) : hv (fun n => gX12_wins n 537 (nI t) (nI p) D σ) Q := by
  unfold gX12_wins
  by_cases q : go ≤ gt
  · have h := q1 q
    clear q1 q2
    refine hv_up (fun _ => fX12_wins.eq_2 ..) ?_
    try simp only [↓reduceIte, Nat.reduceEqDiff, Option.bind_some, ao_let, n_ell, f4, hw, e4, y2, z2]
    try simp (disch := first | omega | assumption) only [↓reduceIte, Nat.reduceEqDiff, Option.bind_some, ao_let, t_le, f_le, t_lt, f_lt, f_eq, u_eq, u_n1, u_n2, n_cl, n_lt, n_le, n_eq, n_ltl, n_llt, n_lel, n_lle, n_eql, n_leq, n_add, n_mul, n_sub, n_addl, n_ladd, n_mull, n_lmul, n_subl, Int32.reduceLT, Int32.reduceLE, Int32.reduceAdd, Int32.reduceSub, Int32.reduceMul, Int32.reduceToNatClampNeg, not_false_eq_true, not_true_eq_false, or_false, false_or, or_self, and_self, false_and, true_and, and_false, and_true, true_or, or_true, Nat.reduceAdd, Nat.reduceMul, Nat.reduceLT, Nat.reduceLeDiff, ne_eq, n_ell, f4, hw, e4, y2, z2]
    refine hv_bind h (fun w hw => ?_)
    refine hv_up (fun _ => fX12_wins.eq_2 ..) ?_
    try simp only [↓reduceIte, Nat.reduceEqDiff, Option.bind_some, ao_let, n_ell]
    try simp (disch := first | omega | assumption) only [↓reduceIte, Nat.reduceEqDiff, Option.bind_some, ao_let, t_le, f_le, t_lt, f_lt, f_eq, u_eq, u_n1, u_n2, n_cl, n_lt, n_le, n_eq, n_ltl, n_llt, n_lel, n_lle, n_eql, n_leq, n_add, n_mul, n_sub, n_addl, n_ladd, n_mull, n_lmul, n_subl, Int32.reduceLT, Int32.reduceLE, Int32.reduceAdd, Int32.reduceSub, Int32.reduceMul, Int32.reduceToNatClampNeg, not_false_eq_true, not_true_eq_false, or_false, false_or, or_self, and_self, false_and, true_and, and_false, and_true, true_or, or_true, Nat.reduceAdd, Nat.reduceMul, Nat.reduceLT, Nat.reduceLeDiff, ne_eq, n_ell]
    exact hv_some hw
  · have q' : gt < go := by omega
    have h := q2 q
    clear q1 q2
    refine hv_up (fun _ => fX12_wins.eq_2 ..) ?_
    try simp only [↓reduceIte, Nat.reduceEqDiff, Option.bind_some, ao_let, n_ell, f4, hw, e4, y2, z2]
    try simp (disch := first | omega | assumption) only [↓reduceIte, Nat.reduceEqDiff, Option.bind_some, ao_let, t_le, f_le, t_lt, f_lt, f_eq, u_eq, u_n1, u_n2, n_cl, n_lt, n_le, n_eq, n_ltl, n_llt, n_lel, n_lle, n_eql, n_leq, n_add, n_mul, n_sub, n_addl, n_ladd, n_mull, n_lmul, n_subl, Int32.reduceLT, Int32.reduceLE, Int32.reduceAdd, Int32.reduceSub, Int32.reduceMul, Int32.reduceToNatClampNeg, not_false_eq_true, not_true_eq_false, or_false, false_or, or_self, and_self, false_and, true_and, and_false, and_true, true_or, or_true, Nat.reduceAdd, Nat.reduceMul, Nat.reduceLT, Nat.reduceLeDiff, ne_eq, n_ell, f4, hw, e4, y2, z2]
    refine hv_bind h (fun w hw => ?_)
    refine hv_up (fun _ => fX12_wins.eq_2 ..) ?_
    try simp only [↓reduceIte, Nat.reduceEqDiff, Option.bind_some, ao_let, n_ell]
    try simp (disch := first | omega | assumption) only [↓reduceIte, Nat.reduceEqDiff, Option.bind_some, ao_let, t_le, f_le, t_lt, f_lt, f_eq, u_eq, u_n1, u_n2, n_cl, n_lt, n_le, n_eq, n_ltl, n_llt, n_lel, n_lle, n_eql, n_leq, n_add, n_mul, n_sub, n_addl, n_ladd, n_mull, n_lmul, n_subl, Int32.reduceLT, Int32.reduceLE, Int32.reduceAdd, Int32.reduceSub, Int32.reduceMul, Int32.reduceToNatClampNeg, not_false_eq_true, not_true_eq_false, or_false, false_or, or_self, and_self, false_and, true_and, and_false, and_true, true_or, or_true, Nat.reduceAdd, Nat.reduceMul, Nat.reduceLT, Nat.reduceLeDiff, ne_eq, n_ell]
    exact hv_some hw
theorem rn_at {ρ : ao_H} (f1 : ShA ρ) (f2 : ShB ρ) {o : Nat} (ho : o < 6) : ρ.1 91 o = some (92 + 71 * o) := by
  rcases (show o = 0 ∨ o = 1 ∨ o = 2 ∨ o = 3 ∨ o = 4 ∨ o = 5 by omega) with rfl | rfl | rfl | rfl | rfl | rfl <;> simp [f1, f2]
theorem c_lose {o p fo ft : Nat} (f1 : ShA ρ) (f2 : ShB ρ) (ht : t < 6) (ho : o < 6) (hp : p < 26) (e : C 16 p = nI o) (eo : o ≠ t) (h0 : C (92 + 71 * t) 0 = nI t) (y1 : C (92 + 71 * t) 15 = nI ft) (z1 : C (92 + 71 * o) 15 = nI fo) (b1 : ft < 100000) (b2 : fo < 100000) : gX2_loserAbout 12 (92 + 71 * t) (nI p) C ρ = some (if fo ≤ ft then nI t else nI o, C) := by
  have hR := RnS_of f2 ht
  have hRo := RnS_of f2 ho
  have hne1 : (nI o = -1) = False := n_neg (by omega)
  have hso4 := rn_at f1 f2 ho
  unfold gX2_loserAbout gX5_isTakenByOther
  try simp only [↓reduceIte, Nat.reduceEqDiff, Option.bind_some, ao_let, n_ell, f1, hR, e, hne1, h0, hso4, hRo, y1, z1, eo, show ((1 : Int32) = 0) = False from by decide]
  try simp (disch := first | omega | assumption) only [↓reduceIte, Nat.reduceEqDiff, Option.bind_some, ao_let, t_le, f_le, t_lt, f_lt, f_eq, u_eq, u_n1, u_n2, n_cl, n_lt, n_le, n_eq, n_ltl, n_llt, n_lel, n_lle, n_eql, n_leq, n_add, n_mul, n_sub, n_addl, n_ladd, n_mull, n_lmul, n_subl, Int32.reduceLT, Int32.reduceLE, Int32.reduceAdd, Int32.reduceSub, Int32.reduceMul, Int32.reduceToNatClampNeg, not_false_eq_true, not_true_eq_false, or_false, false_or, or_self, and_self, false_and, true_and, and_false, and_true, true_or, or_true, Nat.reduceAdd, Nat.reduceMul, Nat.reduceLT, Nat.reduceLeDiff, ne_eq, n_ell, f1, hR, e, hne1, h0, hso4, hRo, y1, z1, eo, show ((1 : Int32) = 0) = False from by decide]
  by_cases q : fo ≤ ft
  · simp only [q, ↓reduceIte]
  · simp only [q, ↓reduceIte]

set_option maxHeartbeats 2000000 in
theorem lose_P {p : Nat} (hF : FullP (fun u => u ≠ t) C ρ D σ kp rc nw bw br) (ht : t < 6) (hp : p < 26) (hM : Md C ρ D rc t len kd a1 a2 a3 φ N H K l) (hw : D 537 27 = 3) :
    ∃ v, gX2_loserAbout 12 (92 + 71 * t) (nI p) C ρ = some (v, C) ∧ (v = -1 ∧ hv (fun n => gX12_wins n 537 (nI t) (nI p) D σ) (fun w => w = (1, D, σ)) ∨
      (∃ o, o < 6 ∧ o ≠ t ∧ v = nI o ∧ hv (fun n => gX2_restart n 12 (92 + 71 * o) 0 C ρ) (fun y => hv (fun n => gX12_wins n 537 (nI t) (nI p) D σ) (fun w => w.1 = 1 ∧ ∃ kp', FullP (fun u => u ≠ t) y.1 y.2 w.2.1 w.2.2 kp' rc nw bw br ∧ Md y.1 y.2 w.2.1 rc t len kd a1 a2 a3 φ N H K l ∧ Sty t C D y.1 w.2.1))) ∨
      (v = nI t ∧ hv (fun n => gX2_restart n 12 (92 + 71 * t) 0 C ρ) (fun y => hv (fun n => gX12_wins n 537 (nI t) (nI p) D σ) (fun w => w.1 = 0 ∧ ∃ kp', Full y.1 y.2 w.2.1 w.2.2 kp' rc nw bw br)))) := by
  have hF' := hF
  obtain ⟨⟨f1, f2, f3, f4⟩, f5, ⟨f6, f7, fX⟩, f8, f9, f10, f11, f12, f13, f14, f15, f16⟩ := hF
  have hM' := hM
  obtain ⟨m1, m2, ⟨g1, g2, g3, g4, g5, g6, g7, g8, g9⟩, m4, m5, ⟨m6, m7, m8⟩, mI⟩ := hM
  have hR := RnS_of f2 ht
  have f5' := f5
  obtain ⟨f, g, h, pc, pd, ch, ev, ec⟩ := f5
  obtain ⟨v1, v2, v3, v4, v5, v6, v7⟩ := ev p hp
  rcases v6 with e | ⟨o, ho, e⟩
  · refine ⟨-1, ?_, Or.inl ⟨rfl, ?_⟩⟩
    · unfold gX2_loserAbout gX5_isTakenByOther
      try simp only [↓reduceIte, Nat.reduceEqDiff, Option.bind_some, ao_let, n_ell, f1, hR, e]
      try simp (disch := first | omega | assumption) only [↓reduceIte, Nat.reduceEqDiff, Option.bind_some, ao_let, t_le, f_le, t_lt, f_lt, f_eq, u_eq, u_n1, u_n2, n_cl, n_lt, n_le, n_eq, n_ltl, n_llt, n_lel, n_lle, n_eql, n_leq, n_add, n_mul, n_sub, n_addl, n_ladd, n_mull, n_lmul, n_subl, Int32.reduceLT, Int32.reduceLE, Int32.reduceAdd, Int32.reduceSub, Int32.reduceMul, Int32.reduceToNatClampNeg, not_false_eq_true, not_true_eq_false, or_false, false_or, or_self, and_self, false_and, true_and, and_false, and_true, true_or, or_true, Nat.reduceAdd, Nat.reduceMul, Nat.reduceLT, Nat.reduceLeDiff, ne_eq, n_ell, f1, hR, e]
    · unfold gX12_wins
      have e4 : D 544 p = -1 := by rw [← v3]; exact e
      refine hv_up (fun _ => fX12_wins.eq_2 ..) ?_
      try simp only [↓reduceIte, Nat.reduceEqDiff, Option.bind_some, ao_let, n_ell, f4, hw, e4, n_g1]
      try simp (disch := first | omega | assumption) only [↓reduceIte, Nat.reduceEqDiff, Option.bind_some, ao_let, t_le, f_le, t_lt, f_lt, f_eq, u_eq, u_n1, u_n2, n_cl, n_lt, n_le, n_eq, n_ltl, n_llt, n_lel, n_lle, n_eql, n_leq, n_add, n_mul, n_sub, n_addl, n_ladd, n_mull, n_lmul, n_subl, Int32.reduceLT, Int32.reduceLE, Int32.reduceAdd, Int32.reduceSub, Int32.reduceMul, Int32.reduceToNatClampNeg, not_false_eq_true, not_true_eq_false, or_false, false_or, or_self, and_self, false_and, true_and, and_false, and_true, true_or, or_true, Nat.reduceAdd, Nat.reduceMul, Nat.reduceLT, Nat.reduceLeDiff, ne_eq, n_ell, f4, hw, e4, n_g1]
      exact hv_some rfl
  · have e4 : D 544 p = nI o := by rw [← v3]; exact e
    have hne1 : (nI o = -1) = False := n_neg (by omega)
    by_cases eo : o = t
    · subst eo
      refine ⟨-1, ?_, Or.inl ⟨rfl, ?_⟩⟩
      · unfold gX2_loserAbout gX5_isTakenByOther
        try simp only [↓reduceIte, Nat.reduceEqDiff, Option.bind_some, ao_let, n_ell, f1, hR, e, hne1, g3]
        try simp (disch := first | omega | assumption) only [↓reduceIte, Nat.reduceEqDiff, Option.bind_some, ao_let, t_le, f_le, t_lt, f_lt, f_eq, u_eq, u_n1, u_n2, n_cl, n_lt, n_le, n_eq, n_ltl, n_llt, n_lel, n_lle, n_eql, n_leq, n_add, n_mul, n_sub, n_addl, n_ladd, n_mull, n_lmul, n_subl, Int32.reduceLT, Int32.reduceLE, Int32.reduceAdd, Int32.reduceSub, Int32.reduceMul, Int32.reduceToNatClampNeg, not_false_eq_true, not_true_eq_false, or_false, false_or, or_self, and_self, false_and, true_and, and_false, and_true, true_or, or_true, Nat.reduceAdd, Nat.reduceMul, Nat.reduceLT, Nat.reduceLeDiff, ne_eq, n_ell, f1, hR, e, hne1, g3]
      · unfold gX12_wins
        refine hv_up (fun _ => fX12_wins.eq_2 ..) ?_
        try simp only [↓reduceIte, Nat.reduceEqDiff, Option.bind_some, ao_let, n_ell, f4, hw, e4]
        try simp (disch := first | omega | assumption) only [↓reduceIte, Nat.reduceEqDiff, Option.bind_some, ao_let, t_le, f_le, t_lt, f_lt, f_eq, u_eq, u_n1, u_n2, n_cl, n_lt, n_le, n_eq, n_ltl, n_llt, n_lel, n_lle, n_eql, n_leq, n_add, n_mul, n_sub, n_addl, n_ladd, n_mull, n_lmul, n_subl, Int32.reduceLT, Int32.reduceLE, Int32.reduceAdd, Int32.reduceSub, Int32.reduceMul, Int32.reduceToNatClampNeg, not_false_eq_true, not_true_eq_false, or_false, false_or, or_self, and_self, false_and, true_and, and_false, and_true, true_or, or_true, Nat.reduceAdd, Nat.reduceMul, Nat.reduceLT, Nat.reduceLeDiff, ne_eq, n_ell, f4, hw, e4]
        exact hv_some rfl
    · have hso : C (92 + 71 * o) 2 = 2 := by
        obtain ⟨-, -, -, -, -, bk, -⟩ := f13
        refine Classical.byContradiction fun q => ?_
        exact bk o ho q p hp e
      have hst : C (92 + 71 * t) 2 = 2 := g1
      have hRo := RnS_of f2 ho
      obtain ⟨ff, gg, bs, b0, b1, bk, b2⟩ := f13
      obtain ⟨y1, y2, y3, y4, y5⟩ := b2 t ht (Or.inl hst)
      obtain ⟨z1, z2, z3, z4, z5⟩ := b2 o ho (Or.inl hso)
      have hy5 := y5 o ho eo (Or.inl hso)
      have hz5 := z5 t ht (fun q => eo q.symm) (Or.inl hst)
      have hnw := fX.2.2.2.1
      clear b2 y5 z5
      have wfin : ∀ {Q : Int32 × ao_S → Prop}, (gg o ≤ gg t → hv (fun n => gX12_restart n 537 (nI t) 0 D σ) (fun w => Q (0, w))) → (¬ gg o ≤ gg t → hv (fun n => gX12_restart n 537 (nI o) 0 D σ) (fun w => Q (1, w))) → hv (fun n => gX12_wins n 537 (nI t) (nI p) D σ) Q := fun q1 q2 => d_wins f4 ht ho hp hw e4 eo y2 z2 (by omega) (by omega) q1 q2
      have cfin := c_lose f1 f2 ht ho hp e eo g3 y1 z1 (by omega) (by omega)
      by_cases q : ff o ≤ ff t
      · refine ⟨nI t, ?_, Or.inr (Or.inr ⟨rfl, ?_⟩)⟩
        · rw [cfin, if_pos q]
        · refine hv_mono (rst_M hF' ht hM' (show 0 < nl l by omega)) (fun y hy => wfin (fun _ => hv_mono hy (fun w hw => ⟨rfl, hw⟩)) (fun q2 => absurd (show gg o ≤ gg t by omega) q2))
      · have q' : ff t < ff o := by omega
        refine ⟨nI o, ?_, Or.inr (Or.inl ⟨o, ho, eo, rfl, ?_⟩)⟩
        · rw [cfin, if_neg q]
        · obtain ⟨len', kd', a1', a2', a3', φ', N', H', K', l', hMo⟩ := Md_Thr ((f12 o ho).2 eo) hso
          refine hv_mono (rst_P hF' ho hMo (show 0 < nl l' from hMo.2.2.2.2.2.1.2.2)) (fun y hy => wfin (fun q2 => absurd (show ¬ gg o ≤ gg t by omega) (fun x => x q2)) (fun _ => hv_mono hy ?_))
          rintro w ⟨kp', u1, -, u3, u4⟩
          clear f8 f12 hy wfin cfin hy5 hz5 ev f1 f2 f3 f4 hR hRo hw hMo
          have zc := sh_zc f5'
          have zd := sh_zd f5'
          have cl : ∀ x i, (x < 13 ∨ 22 ≤ x ∧ x < 599) → ¬ (92 + 71 * o ≤ x ∧ x < 92 + 71 * o + 71) → y.1 x i = C x i := fun x i h1 h2 => u3.2 x i (by omega) h2 (Rpl_nc f5' (by omega)) (fun z hz => by have := zc z hz; omega)
          have iC : inC t C y.1 := fun x i h1 h2 => cl x i (by omega) (by omega)
          have iD : inD t D w.1 := fun x i h1 h2 h3 h4 => u4.2 x i (by omega) (by omega) (by
            rintro ⟨q1, q2, q3, q4⟩
            have : o < t ∨ t < o := by omega
            rcases this with q | q
            · have : (o + 1) * wd x ≤ t * wd x := Nat.mul_le_mul_right _ q
              omega
            · have : (t + 1) * wd x ≤ o * wd x := Nat.mul_le_mul_right _ q
              omega) (Rpl_nd f5' (by omega)) (fun z hz => by have := zd z hz; omega)
          exact ⟨rfl, kp', u1, Md_fr hM' ht (Nat.le_refl _) iC iD u3.1 zc (fun x i hx h1 h2 => u3.2 x i (by omega) (by omega) h1 h2), iC, iD, cl _ _ (by omega) (by omega)⟩
/-- may t touch place p, in the way kept -/
def TouP (C D : ao_M) (kp rc nw bw br t len kd a1 a2 a3 : Nat) (φ : Nat → Nat) (N : Ns) (H K : Nat → Nat) (l : List (Nat × Nat)) (y w1 : Int32 × ao_S) : Prop :=
  (w1.1 = 0 ∧ y.1 = 0 ∧ ∃ kp', Full y.2.1 y.2.2 w1.2.1 w1.2.2 kp' rc nw bw br) ∨ (w1.1 = 1 ∧ ShD w1.2.2 ∧ hv (fun n => gX12_goesOn n 537 (nI t) w1.2.1 w1.2.2) (fun w2 => (w2.1 = 0 ∧ y.1 = 0 ∧ ∃ kp', Full y.2.1 y.2.2 w2.2.1 w2.2.2 kp' rc nw bw br) ∨
    (w2.1 = 1 ∧ y.1 = 1 ∧ ∃ kp', FullP (fun u => u ≠ t) y.2.1 y.2.2 w2.2.1 w2.2.2 kp' rc nw bw br ∧ Md y.2.1 y.2.2 w2.2.1 rc t len kd a1 a2 a3 φ N H K l ∧ Sty t C D y.2.1 w2.2.1)))
theorem touch_P {p : Nat} (hF : FullP (fun u => u ≠ t) C ρ D σ kp rc nw bw br) (ht : t < 6) (hp : p < 26) (hM : Md C ρ D rc t len kd a1 a2 a3 φ N H K l) (hw : D 537 27 = 3) :
    hv (fun n => gX2_mayTouch n 12 (92 + 71 * t) (nI p) C ρ) (fun y => hv (fun n => gX12_wins n 537 (nI t) (nI p) D σ) (fun w => TouP C D kp rc nw bw br t len kd a1 a2 a3 φ N H K l y w)) := by
  obtain ⟨v, ev, hv3⟩ := lose_P hF ht hp hM hw
  have f1 := hF.1.1
  have f2 := hF.1.2.1
  have hR := RnS_of f2 ht
  have h12 : ¬ (D 537 27 = 1 ∧ D 537 26 = D 560 t) := fun x => absurd (hw.symm.trans x.1) (by decide)
  -- the second half of the class's
  have tail : ∀ {C1 D1 : ao_M} {ρ1 σ1 : ao_H} {kp1 : Nat} {v : Int32} {Q : Int32 × ao_S → Prop}, FullP (fun u => u ≠ t) C1 ρ1 D1 σ1 kp1 rc nw bw br → Md C1 ρ1 D1 rc t len kd a1 a2 a3 φ N H K l → D1 537 27 = 3 → v ≠ nI t → (∀ y, hv (fun n => gX12_goesOn n 537 (nI t) D1 σ1) (fun w2 => (w2.1 = 0 ∧ y.1 = 0 ∧ ∃ kp', Full y.2.1 y.2.2 w2.2.1 w2.2.2 kp' rc nw bw br) ∨ (w2.1 = 1 ∧ y.1 = 1 ∧ y.2 = (C1, ρ1) ∧ w2.2 = (D1, σ1))) → Q y) → hv (fun n => fX2_mayTouch n 28 12 (92 + 71 * t) (nI p) v 0 C1 ρ1) Q := by
    intro C1 D1 ρ1 σ1 kp1 v Q hF1 hM1 hw1 hv1 hQ
    have f11 := hF1.1.1
    have hR1 := RnS_of hF1.1.2.1 ht
    have h0 := hM1.2.2.1.2.2.1
    have hne : (v = nI t) = False := eq_false hv1
    refine hv_up (fun _ => fX2_mayTouch.eq_2 ..) ?_
    simp only [↓reduceIte, Nat.reduceEqDiff, hR1, h0, hne, f11]
    refine hv_bind (P := fun y => y.2 = C1 ∧ FW D1 t 0 (nl l) y.1) (ow_P hF1 ht hM1 (fun x => absurd (hw1.symm.trans x.1) (by decide)) (fun x hx => ⟨rfl, hx⟩)) ?_
    rintro ⟨x, C1'⟩ ⟨e, hx⟩
    obtain rfl : C1' = C1 := e
    simp only [ao_let]
    refine hv_bind (goes_P hF1 ht hM1 hx) ?_
    intro y hy
    obtain ⟨Ng, wg, eg, hg⟩ := hy
    rcases hg with ⟨rfl, rfl, rfl⟩ | ⟨q1, q2, q3, q4⟩
    · refine hv_up (fun _ => fX2_mayTouch.eq_2 ..) ?_
      simp only [↓reduceIte, Nat.reduceEqDiff, n_g2]
      exact hv_some (hQ _ ⟨Ng, _, eg, Or.inr ⟨rfl, rfl, rfl, rfl⟩⟩)
    · refine hv_up (fun _ => fX2_mayTouch.eq_2 ..) ?_
      simp only [↓reduceIte, Nat.reduceEqDiff, q2]
      exact hv_some (hQ _ ⟨Ng, _, eg, Or.inl ⟨q3, rfl, q4⟩⟩)
  unfold gX2_mayTouch
  refine hv_up (fun _ => fX2_mayTouch.eq_2 ..) ?_
  simp only [↓reduceIte, f1, ev, Option.bind_some, ao_let]
  rcases hv3 with ⟨rfl, hwin⟩ | ⟨o, ho, hot, rfl, hrs⟩ | ⟨rfl, hrs⟩
  · simp only [n_g1, ↓reduceIte]
    refine tail hF hM hw (fun e => ?_) (fun y hy => ?_)
    · have := n_neg (n := t) (by omega)
      rw [← e] at this
      exact absurd rfl (by rw [this]; exact id)
    · refine hv_mono hwin ?_
      rintro _ rfl
      refine Or.inr ⟨rfl, hF.1.2.2.2, hv_mono hy ?_⟩
      rintro w2 (h | ⟨h1, h2, h3, h4⟩)
      · exact Or.inl h
      · refine Or.inr ⟨h1, h2, kp, ?_⟩
        rw [h3, h4]
        exact ⟨hF, hM, fun _ _ _ _ => rfl, fun _ _ _ _ _ _ => rfl, rfl⟩
  · have hso4 := rn_at f1 f2 (show o < 6 by omega)
    simp (disch := omega) only [n_ltl, f_lt, n_lle, f_le, n_cl, ↓reduceIte, f1, Option.bind_some, or_self, not_false_eq_true, hso4]
    refine hv_bind hrs ?_
    rintro ⟨C1, ρ1⟩ ⟨Nw, ⟨b, D1, σ1⟩, ew, eb, kp', u1, u2, u3⟩
    dsimp only at eb u1 u2 u3
    subst eb
    refine tail u1 u2 (by rw [← u1.2.2.1.1, u3.2.2, hF.2.2.1.1]; exact hw) (fun e => ?_) (fun y hy => ⟨Nw, _, ew, Or.inr ⟨rfl, u1.1.2.2.2, hv_mono hy ?_⟩⟩)
    · have := (n_eq (show o < 2147483648 by omega) (show t < 2147483648 by omega)).mp e
      exact hot this
    · rintro w2 (h | ⟨h1, h2, h3, h4⟩)
      · exact Or.inl h
      · refine Or.inr ⟨h1, h2, kp', ?_⟩
        rw [h3, h4]
        exact ⟨u1, u2, u3⟩
  · have hso4 := rn_at f1 f2 (show t < 6 by omega)
    simp (disch := omega) only [n_ltl, f_lt, n_lle, f_le, n_cl, ↓reduceIte, f1, Option.bind_some, or_self, not_false_eq_true, hso4]
    refine hv_bind hrs ?_
    rintro ⟨C1, ρ1⟩ ⟨Nw, ⟨b, D1, σ1⟩, ew, eb, kp', u1⟩
    dsimp only at eb u1
    subst eb
    have hR1 := RnS_of u1.1.2.1 ht
    have h01 : C1 (92 + 71 * t) 0 = nI t := by
      obtain ⟨-, -, -, -, -, -, -, hT, -⟩ := u1
      obtain ⟨s, c1, c2, c3, c4, -⟩ := hT t ht
      exact c4
    refine hv_up (fun _ => fX2_mayTouch.eq_2 ..) ?_
    simp only [↓reduceIte, Nat.reduceEqDiff, hR1, h01]
    exact hv_some ⟨Nw, _, ew, Or.inl ⟨rfl, rfl, kp', u1⟩⟩
end Tou
