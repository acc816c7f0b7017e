set_option linter.unusedSimpArgs false
set_option linter.unusedVariables false
theorem bt_any (m : Int32) {p : Nat} (hp : p < 26) (q : Nat) : bt (m ||| ((1 : Int32) <<< (nI p &&& 31))) q = (bt m q || decide (q = p)) := by
  by_cases e : q < 26
  · exact bt_or m e hp
  · rw [bt_orh m (by omega) hp, decide_eq_false (by omega), Bool.or_false]
section Sta0
variable {C D : ao_M} {ρ σ : ao_H} {kp rc nw bw br t s len kd a1 a2 a3 a : Nat} {φ : Nat → Nat} {N : Ns} {H K : Nat → Nat}
theorem c_inn {C2 : ao_M} {ρ2 : ao_H} {j : Nat} {Q : Nat × ao_M → Prop} (h2 : ShB ρ2) (ht : t < 6) (hj : j < 10) (h3 : C2 (92 + 71 * t) 8 = nI (j + 1)) (hQ : Q (92 + 71 * t + 8 + 6 * j, C2)) : hv (fun n => gX7_innermost n (92 + 71 * t) C2 ρ2) Q := by
  have hR2 := RnS_of h2 ht
  unfold gX7_innermost
  simp only [hR2, ↓reduceIte, h3, n_pre]
  refine hv_bind (P := fun y => y = (92 + 71 * t + 8 + 6 * j, C2)) (c_level h2 ht hj C2 rfl) ?_
  rintro _ rfl
  exact hv_some hQ
set_option maxHeartbeats 2000000 in
theorem wr_both {C2 D2 : ao_M} {ρ2 σ2 : ao_H} {kp2 j p : Nat} {v : Int32} (ht : t < 6) (hp : p < 26) (hj10 : j < 10) (ej : nl (N a) = j + 1) (ha : a < len) (jx : nxt φ N H K a 1 0) (hbw : bw + 1 ≤ 28000) (hF2 : FullP (fun u => u ≠ t) C2 ρ2 D2 σ2 kp2 rc nw bw br) (hM2 : Md C2 ρ2 D2 rc t len kd a1 a2 a3 φ N H K (N a)) (hE2 : D2 537 27 = 3 ∨ D2 537 27 = 4)
    (c8' : C2 (92 + 71 * t) 8 = nI (j + 1)) (c3' : C2 (92 + 71 * t) 3 = nI (a + 1)) (c5' : C2 (92 + 71 * t) 5 = nI 0) (c0' : C2 (92 + 71 * t) 0 = nI t) (d55' : D2 555 t = nI 0) (d56' : D2 556 t = nI (j + 1)) (d521' : D2 552 t = nI (φ a)) : hv (fun n => fX2_write n 108 12 (92 + 71 * t) (nI p) v 0 C2 ρ2) (fun y => hv (fun n => fX12_write n 27 537 (nI t) (nI p) v 0 0 D2 σ2) (fun w => w.1 = 1 ∧ hv (fun n => fX12_doWrite n 76 537 (nI t) (nI p) v 0 w.2.1 w.2.2) (fun z => EndE nw (bw + 1) br y z))) := by
  obtain ⟨⟨h1, h2, h3, h4⟩, hRp, -⟩ := id hF2
  have hinn : ∀ {Q : Nat × ao_M → Prop}, Q (92 + 71 * t + 8 + 6 * j, C2) → hv (fun n => gX7_innermost n (92 + 71 * t) C2 ρ2) Q := fun hQ => c_inn h2 ht hj10 c8' hQ
  have dE : ∀ {D3 : ao_M} {P : Int32 × ao_S → Prop}, D3 552 t = nI (φ a) → P (0, ao_u D3 552 t (nI (φ a + 1)), σ2) → hv (fun n => fX12_doWrite n 76 537 (nI t) (nI p) v 0 D3 σ2) P := by
    intro D3 P h5 hP
    clear hinn hF2 hM2 hE2 hRp
    refine hv_up (fun _ => fX12_doWrite.eq_2 ..) ?_
    try simp only [↓reduceIte, Nat.reduceEqDiff, Option.bind_some, ao_let, n_ell, h4, h5]
    try simp (disch := first | omega | assumption) only [↓reduceIte, Nat.reduceEqDiff, Option.bind_some, ao_let, t_le, f_le, t_lt, f_lt, f_eq, u_eq, u_n1, u_n2, n_cl, n_lt, n_le, n_eq, n_ltl, n_llt, n_lel, n_lle, n_eql, n_leq, n_add, n_mul, n_sub, n_addl, n_ladd, n_mull, n_lmul, n_subl, Int32.reduceLT, Int32.reduceLE, Int32.reduceAdd, Int32.reduceSub, Int32.reduceMul, Int32.reduceToNatClampNeg, not_false_eq_true, not_true_eq_false, or_false, false_or, or_self, and_self, false_and, true_and, and_false, and_true, true_or, or_true, Nat.reduceAdd, Nat.reduceMul, Nat.reduceLT, Nat.reduceLeDiff, ne_eq, n_ell, h4, h5]
    exact hv_some hP
  have hR2 := RnS_of h2 ht
  have hl2 := LvS_of h2 ht (show j < 10 by omega)
  have e8 : C2 (92 + 71 * t) 8 = nI (j + 1) := by exact c8'
  have e3 : C2 (92 + 71 * t) 3 = nI (a + 1) := by exact c3'
  have e5 : C2 (92 + 71 * t) 5 = nI 0 := by exact c5'
  have e0 : C2 (92 + 71 * t) 0 = nI t := by exact c0'
  have x55 : D2 555 t = nI 0 := by exact d55'
  have x56 : D2 556 t = nI (j + 1) := by exact d56'
  have x52 : D2 552 t = nI (φ a) := by exact d521'
  have hv1 : C2 14 p = D2 542 p := by
    obtain ⟨f, g, h, pc, pd, ch, ev, ec⟩ := hRp
    exact (ev p hp).1
  obtain ⟨-, -, hW, -⟩ := hM2.2.2.2.2.2.2.2.1 j (by omega)
  obtain ⟨hf, hfv⟩ := hW.2 p hp
  refine hv_up (fun _ => fX2_write.eq_2 ..) ?_
  simp only [↓reduceIte, Nat.reduceEqDiff, hR2]
  refine hv_bind (P := fun y => y = (92 + 71 * t + 8 + 6 * j, C2)) (hinn rfl) ?_
  rintro _ rfl
  have dpre : ∀ {Q : Int32 × ao_S → Prop}, hv (fun n => if D2 578 ((t * 12 + j) * 26 + p) = 0 then fX12_write n 99 537 (nI t) (nI p) v (nI ((t * 12 + j) * 26 + p)) 0 (ao_u (ao_u D2 578 ((t * 12 + j) * 26 + p) 1) 582 ((t * 12 + j) * 26 + p) (D2 542 p)) σ2 else fX12_write n 99 537 (nI t) (nI p) v (nI ((t * 12 + j) * 26 + p)) 0 D2 σ2) Q → hv (fun n => fX12_write n 27 537 (nI t) (nI p) v 0 0 D2 σ2) Q := by
    intro Q hQ
    refine hv_up (fun _ => fX12_write.eq_2 ..) ?_
    try simp only [↓reduceIte, Nat.reduceEqDiff, Option.bind_some, ao_let, n_ell, h4, gX12_cell, x56, Nat.add_sub_cancel]
    try simp (disch := first | omega | assumption) only [↓reduceIte, Nat.reduceEqDiff, Option.bind_some, ao_let, t_le, f_le, t_lt, f_lt, f_eq, u_eq, u_n1, u_n2, n_cl, n_lt, n_le, n_eq, n_ltl, n_llt, n_lel, n_lle, n_eql, n_leq, n_add, n_mul, n_sub, n_addl, n_ladd, n_mull, n_lmul, n_subl, Int32.reduceLT, Int32.reduceLE, Int32.reduceAdd, Int32.reduceSub, Int32.reduceMul, Int32.reduceToNatClampNeg, not_false_eq_true, not_true_eq_false, or_false, false_or, or_self, and_self, false_and, true_and, and_false, and_true, true_or, or_true, Nat.reduceAdd, Nat.reduceMul, Nat.reduceLT, Nat.reduceLeDiff, ne_eq, n_ell, h4, gX12_cell, x56, Nat.add_sub_cancel]
    refine hv_bind (P := fun y => y = (1, D2)) (dv_eagerT h4 D2 hE2 rfl) ?_
    rintro _ rfl
    try simp only [↓reduceIte, Nat.reduceEqDiff, Option.bind_some, ao_let, n_ell, h4, show ((1 : Int32) = 0) = False from by decide]
    try simp (disch := first | omega | assumption) only [↓reduceIte, Nat.reduceEqDiff, Option.bind_some, ao_let, t_le, f_le, t_lt, f_lt, f_eq, u_eq, u_n1, u_n2, n_cl, n_lt, n_le, n_eq, n_ltl, n_llt, n_lel, n_lle, n_eql, n_leq, n_add, n_mul, n_sub, n_addl, n_ladd, n_mull, n_lmul, n_subl, Int32.reduceLT, Int32.reduceLE, Int32.reduceAdd, Int32.reduceSub, Int32.reduceMul, Int32.reduceToNatClampNeg, not_false_eq_true, not_true_eq_false, or_false, false_or, or_self, and_self, false_and, true_and, and_false, and_true, true_or, or_true, Nat.reduceAdd, Nat.reduceMul, Nat.reduceLT, Nat.reduceLeDiff, ne_eq, n_ell, h4, show ((1 : Int32) = 0) = False from by decide]
    exact hQ
  have d99 : ∀ {D3 : ao_M} {x : Int32} {Q : Int32 × ao_S → Prop}, Q (1, ao_u (ao_u D3 544 p (nI t)) 542 p v, σ2) → hv (fun n => fX12_write n 99 537 (nI t) (nI p) v x 0 D3 σ2) Q := by
    intro D3 x Q hQ
    refine hv_up (fun _ => fX12_write.eq_2 ..) ?_
    try simp only [↓reduceIte, Nat.reduceEqDiff, Option.bind_some, ao_let, n_ell, h4]
    try simp (disch := first | omega | assumption) only [↓reduceIte, Nat.reduceEqDiff, Option.bind_some, ao_let, t_le, f_le, t_lt, f_lt, f_eq, u_eq, u_n1, u_n2, n_cl, n_lt, n_le, n_eq, n_ltl, n_llt, n_lel, n_lle, n_eql, n_leq, n_add, n_mul, n_sub, n_addl, n_ladd, n_mull, n_lmul, n_subl, Int32.reduceLT, Int32.reduceLE, Int32.reduceAdd, Int32.reduceSub, Int32.reduceMul, Int32.reduceToNatClampNeg, not_false_eq_true, not_true_eq_false, or_false, false_or, or_self, and_self, false_and, true_and, and_false, and_true, true_or, or_true, Nat.reduceAdd, Nat.reduceMul, Nat.reduceLT, Nat.reduceLeDiff, ne_eq, n_ell, h4]
    exact hv_some hQ
  have c136 : ∀ {C3 : ao_M} {Q : Int32 × ao_S → Prop}, C3 (92 + 71 * t) 0 = nI t → Q (0, ao_u (ao_u C3 16 p (nI t)) 14 p v, ρ2) → hv (fun n => fX2_write n 136 12 (92 + 71 * t) (nI p) v 0 C3 ρ2) Q := by
    intro C3 Q h0 hQ
    refine hv_up (fun _ => fX2_write.eq_2 ..) ?_
    try simp only [↓reduceIte, Nat.reduceEqDiff, Option.bind_some, ao_let, n_ell, h1, hR2, h0]
    try simp (disch := first | omega | assumption) only [↓reduceIte, Nat.reduceEqDiff, Option.bind_some, ao_let, t_le, f_le, t_lt, f_lt, f_eq, u_eq, u_n1, u_n2, n_cl, n_lt, n_le, n_eq, n_ltl, n_llt, n_lel, n_lle, n_eql, n_leq, n_add, n_mul, n_sub, n_addl, n_ladd, n_mull, n_lmul, n_subl, Int32.reduceLT, Int32.reduceLE, Int32.reduceAdd, Int32.reduceSub, Int32.reduceMul, Int32.reduceToNatClampNeg, not_false_eq_true, not_true_eq_false, or_false, false_or, or_self, and_self, false_and, true_and, and_false, and_true, true_or, or_true, Nat.reduceAdd, Nat.reduceMul, Nat.reduceLT, Nat.reduceLeDiff, ne_eq, n_ell, h1, hR2, h0]
    exact hv_some hQ
  by_cases hb : bt (C2 (92 + 71 * t + 8 + 6 * j) 6) p = true
  · rw [if_pos hb] at hf
    have hb2 : (bt (C2 (92 + 71 * t + 8 + 6 * j) 6) p = false) = False := by rw [hb]; exact eq_false (by decide)
    try simp only [↓reduceIte, Nat.reduceEqDiff, Option.bind_some, ao_let, n_ell, hl2, gX3_wrote, bt_z, hb2, show ((1 : Int32) = 0) = False from by decide]
    try simp (disch := first | omega | assumption) only [↓reduceIte, Nat.reduceEqDiff, Option.bind_some, ao_let, t_le, f_le, t_lt, f_lt, f_eq, u_eq, u_n1, u_n2, n_cl, n_lt, n_le, n_eq, n_ltl, n_llt, n_lel, n_lle, n_eql, n_leq, n_add, n_mul, n_sub, n_addl, n_ladd, n_mull, n_lmul, n_subl, Int32.reduceLT, Int32.reduceLE, Int32.reduceAdd, Int32.reduceSub, Int32.reduceMul, Int32.reduceToNatClampNeg, not_false_eq_true, not_true_eq_false, or_false, false_or, or_self, and_self, false_and, true_and, and_false, and_true, true_or, or_true, Nat.reduceAdd, Nat.reduceMul, Nat.reduceLT, Nat.reduceLeDiff, ne_eq, n_ell, hl2, gX3_wrote, bt_z, hb2, show ((1 : Int32) = 0) = False from by decide]
    refine c136 e0 (dpre ?_)
    simp only [hf, show ((1 : Int32) = 0) = False from by decide, ↓reduceIte]
    refine d99 ⟨rfl, dE (by dsimp only; rw [u_n1 (by omega), u_n1 (by omega)]; exact x52) ?_⟩
    refine ⟨kp2, rc, rfl, (show ¬ (0 : Int32) < 0 by decide), ?_⟩
    refine wr_end (e := true) (j := j) (x := v) hF2 ht hp hM2 ej ha jx hbw e3 e5 x55 ⟨fun _ => rfl, fun _ => hE2⟩ (fun y i q1 q2 q3 => ?_) (fun y i q1 q2 q3 => ?_) (fun q => ?_) ?_ ?_ u_eq (fun _ => ⟨?_, ?_, ?_⟩)
    · have : ¬ (y = 14 ∧ i = p) ∧ ¬ (y = 16 ∧ i = p) := ⟨fun z => q1 ⟨rfl, z.2, Or.inl z.1⟩, fun z => q1 ⟨rfl, z.2, Or.inr z.1⟩⟩
      show ao_u (ao_u C2 16 p (nI t)) 14 p v y i = C2 y i
      rw [u_ne (by omega), u_ne (by omega)]
    · have : ¬ (y = 542 ∧ i = p) ∧ ¬ (y = 544 ∧ i = p) := ⟨fun z => q1 ⟨rfl, z.2, Or.inl z.1⟩, fun z => q1 ⟨rfl, z.2, Or.inr z.1⟩⟩
      show ao_u (ao_u (ao_u D2 544 p (nI t)) 542 p v) 552 t (nI (φ a + 1)) y i = D2 y i
      rw [u_ne (by omega), u_ne (by omega), u_ne (by omega)]
    · show bt (ao_u (ao_u C2 16 p (nI t)) 14 p v (92 + 71 * t + 8 + 6 * j) 6) q = _
      rw [u_n1 (by omega), u_n1 (by omega)]
      by_cases eq : q = p
      · subst eq
        rw [hb, Bool.true_or]
      · rw [decide_eq_false eq, Bool.or_false]
    · show ao_u (ao_u (ao_u D2 544 p (nI t)) 542 p v) 552 t (nI (φ a + 1)) 578 ((t * 12 + j) * 26 + p) = 1
      rw [u_n1 (by omega), u_n1 (by omega), u_n1 (by omega)]; exact hf
    · show ao_u (ao_u C2 16 p (nI t)) 14 p v (92 + 71 * t + 8 + 6 * j + 4) p = ao_u (ao_u (ao_u D2 544 p (nI t)) 542 p v) 552 t (nI (φ a + 1)) 582 ((t * 12 + j) * 26 + p)
      rw [u_n1 (by omega), u_n1 (by omega), u_n1 (by omega), u_n1 (by omega), u_n1 (by omega)]; exact hfv hb
    · show ao_u (ao_u C2 16 p (nI t)) 14 p v 14 p = ao_u (ao_u (ao_u D2 544 p (nI t)) 542 p v) 552 t (nI (φ a + 1)) 542 p
      rw [u_eq, u_n1 (by omega), u_eq]
    · show ao_u (ao_u C2 16 p (nI t)) 14 p v 16 p = nI t
      rw [u_n1 (by omega), u_eq]
    · show ao_u (ao_u (ao_u D2 544 p (nI t)) 542 p v) 552 t (nI (φ a + 1)) 544 p = nI t
      rw [u_n1 (by omega), u_n1 (by omega), u_eq]
  · rw [if_neg hb] at hf
    have hb2 : bt (C2 (92 + 71 * t + 8 + 6 * j) 6) p = false := by simpa using hb
    try simp only [↓reduceIte, Nat.reduceEqDiff, Option.bind_some, ao_let, n_ell, hl2, gX3_wrote, bt_z, hb2]
    try simp (disch := first | omega | assumption) only [↓reduceIte, Nat.reduceEqDiff, Option.bind_some, ao_let, t_le, f_le, t_lt, f_lt, f_eq, u_eq, u_n1, u_n2, n_cl, n_lt, n_le, n_eq, n_ltl, n_llt, n_lel, n_lle, n_eql, n_leq, n_add, n_mul, n_sub, n_addl, n_ladd, n_mull, n_lmul, n_subl, Int32.reduceLT, Int32.reduceLE, Int32.reduceAdd, Int32.reduceSub, Int32.reduceMul, Int32.reduceToNatClampNeg, not_false_eq_true, not_true_eq_false, or_false, false_or, or_self, and_self, false_and, true_and, and_false, and_true, true_or, or_true, Nat.reduceAdd, Nat.reduceMul, Nat.reduceLT, Nat.reduceLeDiff, ne_eq, n_ell, hl2, gX3_wrote, bt_z, hb2]
    refine hv_bind (P := fun y => y = (92 + 71 * t + 8 + 6 * j, C2)) (hinn rfl) ?_
    rintro _ rfl
    try simp only [↓reduceIte, Nat.reduceEqDiff, Option.bind_some, ao_let, n_ell, h1, hl2, gX3_addWrite]
    try simp (disch := first | omega | assumption) only [↓reduceIte, Nat.reduceEqDiff, Option.bind_some, ao_let, t_le, f_le, t_lt, f_lt, f_eq, u_eq, u_n1, u_n2, n_cl, n_lt, n_le, n_eq, n_ltl, n_llt, n_lel, n_lle, n_eql, n_leq, n_add, n_mul, n_sub, n_addl, n_ladd, n_mull, n_lmul, n_subl, Int32.reduceLT, Int32.reduceLE, Int32.reduceAdd, Int32.reduceSub, Int32.reduceMul, Int32.reduceToNatClampNeg, not_false_eq_true, not_true_eq_false, or_false, false_or, or_self, and_self, false_and, true_and, and_false, and_true, true_or, or_true, Nat.reduceAdd, Nat.reduceMul, Nat.reduceLT, Nat.reduceLeDiff, ne_eq, n_ell, h1, hl2, gX3_addWrite]
    refine c136 (by rw [u_n1 (by omega), u_n1 (by omega)]; exact e0) (dpre ?_)
    simp only [hf, ↓reduceIte]
    refine d99 ⟨rfl, dE (by dsimp only; simp (disch := omega) only [u_ne]; exact x52) ?_⟩
    refine ⟨kp2, rc, rfl, (show ¬ (0 : Int32) < 0 by decide), ?_⟩
    refine wr_end (e := true) (j := j) (x := v) hF2 ht hp hM2 ej ha jx hbw e3 e5 x55 ⟨fun _ => rfl, fun _ => hE2⟩ (fun y i q1 q2 q3 => ?_) (fun y i q1 q2 q3 => ?_) (fun q => ?_) ?_ ?_ u_eq (fun _ => ⟨?_, ?_, ?_⟩)
    · have : ¬ (y = 14 ∧ i = p) ∧ ¬ (y = 16 ∧ i = p) := ⟨fun z => q1 ⟨rfl, z.2, Or.inl z.1⟩, fun z => q1 ⟨rfl, z.2, Or.inr z.1⟩⟩
      dsimp only
      simp (disch := omega) only [u_ne]
    · have : ¬ (y = 542 ∧ i = p) ∧ ¬ (y = 544 ∧ i = p) := ⟨fun z => q1 ⟨rfl, z.2, Or.inl z.1⟩, fun z => q1 ⟨rfl, z.2, Or.inr z.1⟩⟩
      dsimp only
      simp (disch := omega) only [u_ne]
    · dsimp only
      simp (disch := omega) only [u_ne, u_eq]
      exact bt_any _ hp q
    · dsimp only
      simp (disch := omega) only [u_ne, u_eq]
    · dsimp only
      simp (disch := omega) only [u_ne, u_eq]
      exact hv1
    · dsimp only
      simp (disch := omega) only [u_ne, u_eq]
    · dsimp only
      simp (disch := omega) only [u_ne, u_eq]
    · dsimp only
      simp (disch := omega) only [u_ne, u_eq]
set_option maxHeartbeats 4000000 in
theorem st_write2 (hF : Full C ρ D σ kp rc nw bw br) (ht : t < 6) (ho : Opn C ρ D rc t s len kd a1 a2 a3 φ N H K a) (ha : a < len) (h : C a1 a = 11 ∧ dcd D t (3 * φ a) = 10 ∧ (∃ r, r < 26 ∧ C a2 a = nI r ∧ dcd D t (3 * φ a + 1) = nI r) ∧ H a = 1 ∧ nxt φ N H K a 1 0) (es : s = 2) (hbw : bw + 1 ≤ 28000) :
    hv (fun n => gX2_step n 12 (92 + 71 * t) C ρ) (fun y => hv (fun n => gX12_step n 537 (nI t) D σ) (fun w => EndE nw (bw + 1) br y w)) := by
  obtain ⟨i1, i2, ⟨p, hp, i4, i5⟩, i3, jx⟩ := h
  have hF' := hF
  have hmid := mid_of (C1 := ao_u (ao_u C (92 + 71 * t) 3 (nI (a + 1))) (92 + 71 * t) 5 (nI 0)) (D1 := ao_u D 555 t (nI 0)) hF ht ho es (fun x i q1 q2 => by rw [u_ne (by omega), u_ne (by omega)]) (fun x i q1 q2 => u_ne (by omega))
  obtain ⟨hF1, hM1⟩ := hmid
  obtain ⟨hcat, cok, tc⟩ := ho
  obtain ⟨⟨f1, f2, f3, f4⟩, fR, ⟨fw, ⟨w, w4, wD⟩, -⟩, flz, -, -, -, -, -, -, fbw, fbr⟩ := hF
  obtain ⟨t1, t2, t3, t4, t5, t6, t7, t8, t9, t10, t11, t12, t13, t14, t15⟩ := tc
  have hR := RnS_of f2 ht
  obtain ⟨g0, g1, g2, g3⟩ := d_ins (C := C) (rc := rc) (s := s) cok t9
  rw [i2] at g1
  rw [i5] at g2
  rw [i3] at t12
  subst es
  obtain ⟨w1, wI, w3, w14, w55⟩ := t15 rfl
  have hlen := cok.1
  have hl10 := (cok.2.2.2.2.2.1 a t9).2.1
  have l1 := @nl_le (N a)
  obtain ⟨b1, b2, b3, b4, b5, b6, b7, b8, b9, b10, b11, b12, b13, b14, b15, b16, b17, b18⟩ := hcat
  obtain ⟨j, ej⟩ : ∃ j, nl (N a) = j + 1 := ⟨nl (N a) - 1, by omega⟩
  rw [ej] at w3
  have h8 : C (92 + 71 * t) 8 = nI (j + 1) := by rw [← ej]; exact wI.1
  have hmode : (D 551 t = 2) = True := by rw [t3]; exact eq_true rfl
  have ev0 := t12.2.2 0 (by omega)
  obtain ⟨hst5, hst55, -⟩ := t12
  clear t1 t13 t14 t15 wI
  generalize hv0 : D 554 (t * 64 + 0) = v at ev0
  rw [Nat.add_zero] at hv0
  have hwC : C 12 5 = nI w := by rw [fw]; exact wD
  have hl := LvS_of f2 ht (show j < 10 by omega)
  have cu : ∀ x i, ¬ (x = 92 + 71 * t ∧ (i = 3 ∨ i = 5)) → ao_u (ao_u C (92 + 71 * t) 3 (nI (a + 1))) (92 + 71 * t) 5 (nI 0) x i = C x i := fun x i q => by rw [u_ne (by omega), u_ne (by omega)]
  have c3 : ao_u (ao_u C (92 + 71 * t) 3 (nI (a + 1))) (92 + 71 * t) 5 (nI 0) (92 + 71 * t) 3 = nI (a + 1) := by rw [u_n2 (by omega), u_eq]
  have c5 : ao_u (ao_u C (92 + 71 * t) 3 (nI (a + 1))) (92 + 71 * t) 5 (nI 0) (92 + 71 * t) 5 = nI 0 := u_eq
  have du : ∀ x i, ¬ (x = 555 ∧ i = t) → ao_u D 555 t (nI 0) x i = D x i := fun x i q => u_ne (by omega)
  have d55 : ao_u D 555 t (nI 0) 555 t = nI 0 := u_eq
  -- the class
  unfold gX2_step
  refine hv_up (fun _ => fX2_step.eq_2 ..) ?_
  try simp only [↓reduceIte, Nat.reduceEqDiff, Option.bind_some, ao_let, n_ell, f1, hR, b1, b2, b3, b4, b5, b6, b7, b8, b9, b10, b11, b12, b13, t10, i1, i4]
  try simp (disch := first | omega | assumption) only [↓reduceIte, Nat.reduceEqDiff, Option.bind_some, ao_let, t_le, f_le, t_lt, f_lt, f_eq, u_eq, u_n1, u_n2, n_cl, n_lt, n_le, n_eq, n_ltl, n_llt, n_lel, n_lle, n_eql, n_leq, n_add, n_mul, n_sub, n_addl, n_ladd, n_mull, n_lmul, n_subl, Int32.reduceLT, Int32.reduceLE, Int32.reduceAdd, Int32.reduceSub, Int32.reduceMul, Int32.reduceToNatClampNeg, not_false_eq_true, not_true_eq_false, or_false, false_or, or_self, and_self, false_and, true_and, and_false, and_true, true_or, or_true, Nat.reduceAdd, Nat.reduceMul, Nat.reduceLT, Nat.reduceLeDiff, ne_eq, n_ell, f1, hR, b1, b2, b3, b4, b5, b6, b7, b8, b9, b10, b11, b12, b13, t10, i1, i4]
  rw [c_pop (h := 0) hR (by rw [u_n2 (by omega)]; exact hst5) (by omega)]
  rw [u_n1 (by omega), ev0]
  try simp only [↓reduceIte, Nat.reduceEqDiff, Option.bind_some, ao_let, n_ell]
  try simp (disch := first | omega | assumption) only [↓reduceIte, Nat.reduceEqDiff, Option.bind_some, ao_let, t_le, f_le, t_lt, f_lt, f_eq, u_eq, u_n1, u_n2, n_cl, n_lt, n_le, n_eq, n_ltl, n_llt, n_lel, n_lle, n_eql, n_leq, n_add, n_mul, n_sub, n_addl, n_ladd, n_mull, n_lmul, n_subl, Int32.reduceLT, Int32.reduceLE, Int32.reduceAdd, Int32.reduceSub, Int32.reduceMul, Int32.reduceToNatClampNeg, not_false_eq_true, not_true_eq_false, or_false, false_or, or_self, and_self, false_and, true_and, and_false, and_true, true_or, or_true, Nat.reduceAdd, Nat.reduceMul, Nat.reduceLT, Nat.reduceLeDiff, ne_eq, n_ell]
  generalize hC1 : ao_u (ao_u C (92 + 71 * t) 3 (nI (a + 1))) (92 + 71 * t) 5 (nI 0) = C1 at hF1 hM1 c3 c5 cu ⊢
  refine hv_bind (P := fun y => hv (fun n => gX12_step n 537 (nI t) D σ) (fun w => EndE nw (bw + 1) br y w)) ?_ ?_
  rotate_left 1
  · intro y hy
    refine hv_up (fun _ => fX2_step.eq_2 ..) ?_
    try simp only [↓reduceIte, Nat.reduceEqDiff, Option.bind_some, ao_let, n_ell]
    try simp (disch := first | omega | assumption) only [↓reduceIte, Nat.reduceEqDiff, Option.bind_some, ao_let, t_le, f_le, t_lt, f_lt, f_eq, u_eq, u_n1, u_n2, n_cl, n_lt, n_le, n_eq, n_ltl, n_llt, n_lel, n_lle, n_eql, n_leq, n_add, n_mul, n_sub, n_addl, n_ladd, n_mull, n_lmul, n_subl, Int32.reduceLT, Int32.reduceLE, Int32.reduceAdd, Int32.reduceSub, Int32.reduceMul, Int32.reduceToNatClampNeg, not_false_eq_true, not_true_eq_false, or_false, false_or, or_self, and_self, false_and, true_and, and_false, and_true, true_or, or_true, Nat.reduceAdd, Nat.reduceMul, Nat.reduceLT, Nat.reduceLeDiff, ne_eq, n_ell]
    exact hv_some hy
  have dst : ∀ {P : Int32 × ao_S → Prop}, hv (fun n => gX12_write n 537 (nI t) (nI p) v (ao_u D 555 t (nI 0)) σ) (fun w => (w.1 = 0 ∧ P (1, w.2)) ∨ (w.1 = 1 ∧ hv (fun n => fX12_doWrite n 76 537 (nI t) (nI p) v 0 w.2.1 w.2.2) P)) → hv (fun n => gX12_step n 537 (nI t) D σ) P := by
    intro P hP
    unfold gX12_step
    refine hv_up (fun _ => fX12_step.eq_2 ..) ?_
    try simp only [↓reduceIte, Nat.reduceEqDiff, Option.bind_some, ao_let, n_ell, f4, t11, g1, g2]
    try simp (disch := first | omega | assumption) only [↓reduceIte, Nat.reduceEqDiff, Option.bind_some, ao_let, t_le, f_le, t_lt, f_lt, f_eq, u_eq, u_n1, u_n2, n_cl, n_lt, n_le, n_eq, n_ltl, n_llt, n_lel, n_lle, n_eql, n_leq, n_add, n_mul, n_sub, n_addl, n_ladd, n_mull, n_lmul, n_subl, Int32.reduceLT, Int32.reduceLE, Int32.reduceAdd, Int32.reduceSub, Int32.reduceMul, Int32.reduceToNatClampNeg, not_false_eq_true, not_true_eq_false, or_false, false_or, or_self, and_self, false_and, true_and, and_false, and_true, true_or, or_true, Nat.reduceAdd, Nat.reduceMul, Nat.reduceLT, Nat.reduceLeDiff, ne_eq, n_ell, f4, t11, g1, g2]
    refine hv_bind (P := P) ?_ ?_
    rotate_left 1
    · intro y hy
      refine hv_up (fun _ => fX12_step.eq_2 ..) ?_
      try simp only [↓reduceIte, Nat.reduceEqDiff, Option.bind_some, ao_let, n_ell]
      try simp (disch := first | omega | assumption) only [↓reduceIte, Nat.reduceEqDiff, Option.bind_some, ao_let, t_le, f_le, t_lt, f_lt, f_eq, u_eq, u_n1, u_n2, n_cl, n_lt, n_le, n_eq, n_ltl, n_llt, n_lel, n_lle, n_eql, n_leq, n_add, n_mul, n_sub, n_addl, n_ladd, n_mull, n_lmul, n_subl, Int32.reduceLT, Int32.reduceLE, Int32.reduceAdd, Int32.reduceSub, Int32.reduceMul, Int32.reduceToNatClampNeg, not_false_eq_true, not_true_eq_false, or_false, false_or, or_self, and_self, false_and, true_and, and_false, and_true, true_or, or_true, Nat.reduceAdd, Nat.reduceMul, Nat.reduceLT, Nat.reduceLeDiff, ne_eq, n_ell]
      exact hv_some hy
    unfold gX12_doWrite
    refine hv_up (fun _ => fX12_doWrite.eq_2 ..) ?_
    try simp only [↓reduceIte, Nat.reduceEqDiff, Option.bind_some, ao_let, n_ell, f4, d_pop (h := 0) f4 ht hst55 (by omega), hmode, Nat.add_zero, hv0]
    try simp (disch := first | omega | assumption) only [↓reduceIte, Nat.reduceEqDiff, Option.bind_some, ao_let, t_le, f_le, t_lt, f_lt, f_eq, u_eq, u_n1, u_n2, n_cl, n_lt, n_le, n_eq, n_ltl, n_llt, n_lel, n_lle, n_eql, n_leq, n_add, n_mul, n_sub, n_addl, n_ladd, n_mull, n_lmul, n_subl, Int32.reduceLT, Int32.reduceLE, Int32.reduceAdd, Int32.reduceSub, Int32.reduceMul, Int32.reduceToNatClampNeg, not_false_eq_true, not_true_eq_false, or_false, false_or, or_self, and_self, false_and, true_and, and_false, and_true, true_or, or_true, Nat.reduceAdd, Nat.reduceMul, Nat.reduceLT, Nat.reduceLeDiff, ne_eq, n_ell, f4, d_pop (h := 0) f4 ht hst55 (by omega), hmode, Nat.add_zero, hv0]
    refine hv_bind hP ?_
    rintro ⟨x, M, θ⟩ (⟨e, h⟩ | ⟨e, h⟩)
    · dsimp only at e h
      subst e
      refine hv_up (fun _ => fX12_doWrite.eq_2 ..) ?_
      try simp only [↓reduceIte, Nat.reduceEqDiff, Option.bind_some, ao_let, n_ell]
      try simp (disch := first | omega | assumption) only [↓reduceIte, Nat.reduceEqDiff, Option.bind_some, ao_let, t_le, f_le, t_lt, f_lt, f_eq, u_eq, u_n1, u_n2, n_cl, n_lt, n_le, n_eq, n_ltl, n_llt, n_lel, n_lle, n_eql, n_leq, n_add, n_mul, n_sub, n_addl, n_ladd, n_mull, n_lmul, n_subl, Int32.reduceLT, Int32.reduceLE, Int32.reduceAdd, Int32.reduceSub, Int32.reduceMul, Int32.reduceToNatClampNeg, not_false_eq_true, not_true_eq_false, or_false, false_or, or_self, and_self, false_and, true_and, and_false, and_true, true_or, or_true, Nat.reduceAdd, Nat.reduceMul, Nat.reduceLT, Nat.reduceLeDiff, ne_eq, n_ell]
      exact hv_some h
    · dsimp only at e h
      subst e
      refine hv_up (fun _ => fX12_doWrite.eq_2 ..) ?_
      try simp only [↓reduceIte, Nat.reduceEqDiff, Option.bind_some, ao_let, n_ell, show ((1 : Int32) = 0) = False from by decide]
      try simp (disch := first | omega | assumption) only [↓reduceIte, Nat.reduceEqDiff, Option.bind_some, ao_let, t_le, f_le, t_lt, f_lt, f_eq, u_eq, u_n1, u_n2, n_cl, n_lt, n_le, n_eq, n_ltl, n_llt, n_lel, n_lle, n_eql, n_leq, n_add, n_mul, n_sub, n_addl, n_ladd, n_mull, n_lmul, n_subl, Int32.reduceLT, Int32.reduceLE, Int32.reduceAdd, Int32.reduceSub, Int32.reduceMul, Int32.reduceToNatClampNeg, not_false_eq_true, not_true_eq_false, or_false, false_or, or_self, and_self, false_and, true_and, and_false, and_true, true_or, or_true, Nat.reduceAdd, Nat.reduceMul, Nat.reduceLT, Nat.reduceLeDiff, ne_eq, n_ell, show ((1 : Int32) = 0) = False from by decide]
      exact h
  generalize hD1 : ao_u D 555 t (nI 0) = D1 at hF1 hM1 du d55 dst
  have c8 : C1 (92 + 71 * t) 8 = nI (j + 1) := by rw [cu _ _ (by omega)]; exact h8
  have c12 : C1 12 5 = nI w := by rw [cu _ _ (by omega)]; exact hwC
  have c0 : C1 (92 + 71 * t) 0 = nI t := by rw [cu _ _ (by omega)]; exact t4
  have d27 : D1 537 27 = nI w := by rw [du _ _ (by omega)]; exact wD
  have d56 : D1 556 t = nI (j + 1) := by rw [du _ _ (by omega)]; exact w3
  have d521 : D1 552 t = nI (φ a) := by rw [du _ _ (by omega)]; exact t11
  have dE : ∀ {D3 : ao_M} {σ2 : ao_H} {P : Int32 × ao_S → Prop}, ShD σ2 → D3 552 t = nI (φ a) → P (0, ao_u D3 552 t (nI (φ a + 1)), σ2) → hv (fun n => fX12_doWrite n 76 537 (nI t) (nI p) v 0 D3 σ2) P := by
    intro D3 σ2 P h4 h5 hP
    refine hv_up (fun _ => fX12_doWrite.eq_2 ..) ?_
    try simp only [↓reduceIte, Nat.reduceEqDiff, Option.bind_some, ao_let, n_ell, h4, h5]
    try simp (disch := first | omega | assumption) only [↓reduceIte, Nat.reduceEqDiff, Option.bind_some, ao_let, t_le, f_le, t_lt, f_lt, f_eq, u_eq, u_n1, u_n2, n_cl, n_lt, n_le, n_eq, n_ltl, n_llt, n_lel, n_lle, n_eql, n_leq, n_add, n_mul, n_sub, n_addl, n_ladd, n_mull, n_lmul, n_subl, Int32.reduceLT, Int32.reduceLE, Int32.reduceAdd, Int32.reduceSub, Int32.reduceMul, Int32.reduceToNatClampNeg, not_false_eq_true, not_true_eq_false, or_false, false_or, or_self, and_self, false_and, true_and, and_false, and_true, true_or, or_true, Nat.reduceAdd, Nat.reduceMul, Nat.reduceLT, Nat.reduceLeDiff, ne_eq, n_ell, h4, h5]
    exact hv_some hP
  unfold gX2_write
  refine hv_up (fun _ => fX2_write.eq_2 ..) ?_
  try simp only [↓reduceIte, Nat.reduceEqDiff, Option.bind_some, ao_let, n_ell, hR, c8, f1]
  try simp (disch := first | omega | assumption) only [↓reduceIte, Nat.reduceEqDiff, Option.bind_some, ao_let, t_le, f_le, t_lt, f_lt, f_eq, u_eq, u_n1, u_n2, n_cl, n_lt, n_le, n_eq, n_ltl, n_llt, n_lel, n_lle, n_eql, n_leq, n_add, n_mul, n_sub, n_addl, n_ladd, n_mull, n_lmul, n_subl, Int32.reduceLT, Int32.reduceLE, Int32.reduceAdd, Int32.reduceSub, Int32.reduceMul, Int32.reduceToNatClampNeg, not_false_eq_true, not_true_eq_false, or_false, false_or, or_self, and_self, false_and, true_and, and_false, and_true, true_or, or_true, Nat.reduceAdd, Nat.reduceMul, Nat.reduceLT, Nat.reduceLeDiff, ne_eq, n_ell, hR, c8, f1]
  by_cases hE : D 537 27 = 3 ∨ D 537 27 = 4
  · have hEC : C1 12 5 = 3 ∨ C1 12 5 = 4 := by rw [c12, ← wD]; exact hE
    refine hv_bind (P := fun y => y = (1, C1)) (cv_eager f1 C1 (by rw [if_pos hEC])) ?_
    rintro _ rfl
    simp only [show ((1 : Int32) = 0) = False from by decide, ↓reduceIte]
    -- the writes themselves
    by_cases h3 : D 537 27 = 3
    · have hC3 : C1 12 5 = 3 := by rw [c12, ← wD]; exact h3
      have hD3 : D1 537 27 = 3 := by rw [du _ _ (by omega)]; exact h3
      simp only [hC3, ↓reduceIte]
      refine hv_bind (touch_P hF1 ht hp hM1 hD3) ?_
      rintro ⟨b, C2, ρ2⟩ ⟨Nw, ⟨bw1, D2, σ2⟩, ew, hT⟩
      have dwin : ∀ {P : Int32 × ao_S → Prop}, hv (fun n => fX12_write n 14 537 (nI t) (nI p) v 0 bw1 D2 σ2) P → hv (fun n => gX12_write n 537 (nI t) (nI p) v D1 σ) P := by
        intro P hP
        unfold gX12_write
        refine hv_up (fun _ => fX12_write.eq_2 ..) ?_
        simp only [↓reduceIte, f4, hD3]
        refine hv_bind (P := fun y => y = (bw1, D2, σ2)) ⟨Nw, _, ew, rfl⟩ ?_
        rintro _ rfl
        exact hP
      dsimp only [TouP] at hT
      rcases hT with ⟨e1, e2, kp', hfu⟩ | ⟨e1, f42, hgo⟩
      · subst e1 e2
        refine hv_up (fun _ => fX2_write.eq_2 ..) ?_
        simp only [↓reduceIte, Nat.reduceEqDiff]
        refine hv_some (dst (dwin ?_))
        generalize hEv : EndE nw (bw + 1) br (1, C2, ρ2) = P
        refine hv_up (fun _ => fX12_write.eq_2 ..) ?_
        simp only [↓reduceIte, Nat.reduceEqDiff]
        refine hv_some (Or.inl ⟨rfl, ?_⟩)
        rw [← hEv]
        exact ⟨kp', rc, rfl, (show ¬ (1 : Int32) < 0 by decide), Full_br hfu (by omega) (Nat.le_refl _) hbw fbr⟩
      · subst e1
        obtain ⟨Ng, ⟨bg, D3, σ3⟩, eg, hg⟩ := hgo
        have dgo : ∀ {P : Int32 × ao_S → Prop}, hv (fun n => fX12_write n 22 537 (nI t) (nI p) v 0 bg D3 σ3) P → hv (fun n => fX12_write n 14 537 (nI t) (nI p) v 0 1 D2 σ2) P := by
          intro P hP
          refine hv_up (fun _ => fX12_write.eq_2 ..) ?_
          simp only [↓reduceIte, Nat.reduceEqDiff, show ((1 : Int32) = 0) = False from by decide, f42]
          refine hv_bind (P := fun y => y = (bg, D3, σ3)) ⟨Ng, _, eg, rfl⟩ ?_
          rintro _ rfl
          exact hP
        dsimp only at hg
        rcases hg with ⟨e1, e2, kp', hfu⟩ | ⟨e1, e2, kp', u1, u2, iC, iD, i12⟩
        · subst e1 e2
          refine hv_up (fun _ => fX2_write.eq_2 ..) ?_
          simp only [↓reduceIte, Nat.reduceEqDiff]
          refine hv_some (dst (dwin (dgo ?_)))
          generalize hEv : EndE nw (bw + 1) br (1, C2, ρ2) = P
          refine hv_up (fun _ => fX12_write.eq_2 ..) ?_
          simp only [↓reduceIte, Nat.reduceEqDiff]
          refine hv_some (Or.inl ⟨rfl, ?_⟩)
          rw [← hEv]
          exact ⟨kp', rc, rfl, (show ¬ (1 : Int32) < 0 by decide), Full_br hfu (by omega) (Nat.le_refl _) hbw fbr⟩
        · subst e1 e2
          have hD33 : D3 537 27 = 3 := by rw [← u1.2.2.1.1, i12]; exact hC3
          refine hv_up (fun _ => fX2_write.eq_2 ..) ?_
          simp only [↓reduceIte, Nat.reduceEqDiff, show ((1 : Int32) = 0) = False from by decide]
          refine hv_mono (wr_both ht hp (by omega) ej ha jx hbw u1 u2 (Or.inl hD33) (by rw [iC _ _ (by omega) (by omega)]; exact c8) (by rw [iC _ _ (by omega) (by omega)]; exact c3) (by rw [iC _ _ (by omega) (by omega)]; exact c5) (by rw [iC _ _ (by omega) (by omega)]; exact c0) (by rw [inD_1 iD (by omega)]; exact d55) (by rw [inD_1 iD (by omega)]; exact d56) (by rw [inD_1 iD (by omega)]; exact d521)) (fun y hy => dst (dwin (dgo ?_)))
          refine hv_up (fun _ => fX12_write.eq_2 ..) ?_
          generalize EndE nw (bw + 1) br y = P at hy ⊢
          simp only [↓reduceIte, Nat.reduceEqDiff, show ((1 : Int32) = 0) = False from by decide]
          exact hv_mono hy (fun z hz => Or.inr hz)
    · have hC3 : (C1 12 5 = 3) = False := by rw [c12, ← wD]; exact eq_false h3
      have hD3 : (D1 537 27 = 3) = False := by rw [du _ _ (by omega)]; exact eq_false h3
      simp only [hC3, ↓reduceIte]
      refine hv_mono (wr_both ht hp (by omega) ej ha jx hbw hF1 hM1 (by rw [du _ _ (by omega)]; exact hE) c8 c3 c5 c0 d55 d56 d521) (fun y hy => dst ?_)
      unfold gX12_write
      refine hv_up (fun _ => fX12_write.eq_2 ..) ?_
      generalize EndE nw (bw + 1) br y = P at hy ⊢
      simp only [↓reduceIte, f4, hD3]
      exact hv_mono hy (fun z hz => Or.inr hz)
  · have hEC : ¬ (C1 12 5 = 3 ∨ C1 12 5 = 4) := by rw [c12, ← wD]; exact hE
    have hE1 : ¬ (D1 537 27 = 3 ∨ D1 537 27 = 4) := by rw [du _ _ (by omega)]; exact hE
    have hD3 : (D1 537 27 = 3) = False := eq_false (fun z => hE1 (Or.inl z))
    refine hv_bind (P := fun y => y = (0, C1)) (cv_eager f1 C1 (by rw [if_neg hEC])) ?_
    rintro _ rfl
    simp only [↓reduceIte]
    refine hv_bind (P := fun y => y = (92 + 71 * t + 8 + 6 * j, C1)) (c_inn f2 ht (by omega) c8 rfl) ?_
    rintro _ rfl
    try simp only [↓reduceIte, Nat.reduceEqDiff, Option.bind_some, ao_let, n_ell, hl, gX3_addWrite]
    try simp (disch := first | omega | assumption) only [↓reduceIte, Nat.reduceEqDiff, Option.bind_some, ao_let, t_le, f_le, t_lt, f_lt, f_eq, u_eq, u_n1, u_n2, n_cl, n_lt, n_le, n_eq, n_ltl, n_llt, n_lel, n_lle, n_eql, n_leq, n_add, n_mul, n_sub, n_addl, n_ladd, n_mull, n_lmul, n_subl, Int32.reduceLT, Int32.reduceLE, Int32.reduceAdd, Int32.reduceSub, Int32.reduceMul, Int32.reduceToNatClampNeg, not_false_eq_true, not_true_eq_false, or_false, false_or, or_self, and_self, false_and, true_and, and_false, and_true, true_or, or_true, Nat.reduceAdd, Nat.reduceMul, Nat.reduceLT, Nat.reduceLeDiff, ne_eq, n_ell, hl, gX3_addWrite]
    refine hv_some (dst ?_)
    have fin : EndE nw (bw + 1) br (0, ao_u (ao_u C1 (92 + 71 * t + 8 + 6 * j) 6 (C1 (92 + 71 * t + 8 + 6 * j) 6 ||| ((1 : Int32) <<< (nI p &&& 31)))) (92 + 71 * t + 8 + 6 * j + 4) p v, ρ) (0, ao_u (ao_u (ao_u D1 578 ((t * 12 + j) * 26 + p) 1) 582 ((t * 12 + j) * 26 + p) v) 552 t (nI (φ a + 1)), σ) := by
      refine ⟨kp, rc, rfl, (show ¬ (0 : Int32) < 0 by decide), ?_⟩
      refine wr_end (e := false) (j := j) (x := v) hF1 ht hp hM1 ej ha jx hbw c3 c5 d55 ⟨fun z => absurd z hE1, fun z => absurd z (by decide)⟩ (fun y i q1 q2 q3 => ?_) (fun y i q1 q2 q3 => ?_) (fun q => ?_) ?_ ?_ u_eq (fun z => absurd z (by decide))
      · dsimp only
        simp (disch := omega) only [u_ne]
      · dsimp only
        simp (disch := omega) only [u_ne]
      · dsimp only
        simp (disch := omega) only [u_ne, u_eq]
        exact bt_any _ hp q
      · dsimp only
        simp (disch := omega) only [u_ne, u_eq]
      · dsimp only
        simp (disch := omega) only [u_ne, u_eq]
    generalize EndE nw (bw + 1) br (0, ao_u (ao_u C1 (92 + 71 * t + 8 + 6 * j) 6 (C1 (92 + 71 * t + 8 + 6 * j) 6 ||| ((1 : Int32) <<< (nI p &&& 31)))) (92 + 71 * t + 8 + 6 * j + 4) p v, ρ) = P at fin ⊢
    unfold gX12_write
    refine hv_up (fun _ => fX12_write.eq_2 ..) ?_
    simp only [↓reduceIte, f4, hD3]
    refine hv_up (fun _ => fX12_write.eq_2 ..) ?_
    try simp only [↓reduceIte, Nat.reduceEqDiff, Option.bind_some, ao_let, n_ell, f4, gX12_cell, d56, Nat.add_sub_cancel]
    try simp (disch := first | omega | assumption) only [↓reduceIte, Nat.reduceEqDiff, Option.bind_some, ao_let, t_le, f_le, t_lt, f_lt, f_eq, u_eq, u_n1, u_n2, n_cl, n_lt, n_le, n_eq, n_ltl, n_llt, n_lel, n_lle, n_eql, n_leq, n_add, n_mul, n_sub, n_addl, n_ladd, n_mull, n_lmul, n_subl, Int32.reduceLT, Int32.reduceLE, Int32.reduceAdd, Int32.reduceSub, Int32.reduceMul, Int32.reduceToNatClampNeg, not_false_eq_true, not_true_eq_false, or_false, false_or, or_self, and_self, false_and, true_and, and_false, and_true, true_or, or_true, Nat.reduceAdd, Nat.reduceMul, Nat.reduceLT, Nat.reduceLeDiff, ne_eq, n_ell, f4, gX12_cell, d56, Nat.add_sub_cancel]
    refine hv_bind (P := fun y => y = (0, D1)) (dv_eagerF f4 D1 hE1 rfl) ?_
    rintro _ rfl
    try simp only [↓reduceIte, Nat.reduceEqDiff, Option.bind_some, ao_let, n_ell, f4]
    try simp (disch := first | omega | assumption) only [↓reduceIte, Nat.reduceEqDiff, Option.bind_some, ao_let, t_le, f_le, t_lt, f_lt, f_eq, u_eq, u_n1, u_n2, n_cl, n_lt, n_le, n_eq, n_ltl, n_llt, n_lel, n_lle, n_eql, n_leq, n_add, n_mul, n_sub, n_addl, n_ladd, n_mull, n_lmul, n_subl, Int32.reduceLT, Int32.reduceLE, Int32.reduceAdd, Int32.reduceSub, Int32.reduceMul, Int32.reduceToNatClampNeg, not_false_eq_true, not_true_eq_false, or_false, false_or, or_self, and_self, false_and, true_and, and_false, and_true, true_or, or_true, Nat.reduceAdd, Nat.reduceMul, Nat.reduceLT, Nat.reduceLeDiff, ne_eq, n_ell, f4]
    refine hv_some (Or.inr ⟨rfl, dE f4 (by simp (disch := omega) only [u_ne]; exact d521) fin⟩)
end Sta0
