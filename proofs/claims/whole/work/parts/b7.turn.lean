set_option linter.unusedSimpArgs false
set_option linter.unusedVariables false
/-- a restart of the outermost level, where the start is not known -/
theorem rst_W {P : Nat → Prop} {C D : ao_M} {ρ σ : ao_H} {kp rc nw bw br t k len kd a1 a2 a3 : Nat} {φ : Nat → Nat} {N : Ns} {H K : Nat → Nat} {l : List (Nat × Nat)} (hF : FullP P C ρ D σ kp rc nw bw br) (ht : t < 6) (m1 : Cat C ρ t len kd a1 a2 a3) (m2 : Cok (C a1) (C a2) (C a3) (dcd D t) len φ N H K) (g1 : C (92 + 71 * t) 2 = nI 2) (g2 : D 551 t = nI 2) (g3 : C (92 + 71 * t) 0 = nI t) (g4 : C (92 + 71 * t) 17 = D 559 t) (g5 : C (92 + 71 * t) 18 = D 562 t) (g6 : C (92 + 71 * t) 19 = D 561 t) (g9 : D 556 t = nI (nl l)) (m5 : ∀ x ∈ l, Ent C D t (C a2) (C a3) len φ N x) (m6 : chd N (C a1) len l) (m7 : l.length ≤ 10) (mI : Ins C D rc t (nl l)) (hk0 : k = 0) (hk : k < nl l) :
    hv (fun n => gX2_restart n 12 (92 + 71 * t) (nI k) C ρ) (fun y => hv (fun n => gX12_restart n 537 (nI t) (nI k) D σ) (fun w => ∃ kp', FullP P y.1 y.2 w.1 w.2 kp' rc nw bw br ∧ Thr y.1 y.2 w.1 rc t ∧ FCt t C ρ y.1 y.2 ∧ FDt t D σ w.1 w.2)) := by
  have hF' := hF
  obtain ⟨⟨f1, f2, f3, f4⟩, f5, ⟨f6, f7, fX⟩, f8, f9, f10, f11, f12, f13, f14, f15, f16⟩ := hF
  have l1 := @nl_le l
  have hnow : C 12 6 = D 537 65 := by
    obtain ⟨-, -, -, -, x1, x2, -⟩ := fX
    rw [x1, x2]
  have hkp : kp ≤ 29000 := by
    obtain ⟨e1, e2, -⟩ := f14
    by_cases q : D 537 27 = 3 ∨ D 537 27 = 4
    · have := e1 q; omega
    · have := e2 q; omega
  refine hv_mono (rst_pair ht f1 f2 f4 hk (by omega) hkp f5 f6 f8 hnow (fun e => absurd hk0 e) mI g9 g3 m2 m6 m5 rfl) ?_
  intro y hy
  refine hv_mono hy ?_
  clear hy
  rintro w ⟨r1, r2, r3, r4, r5, r6, r7, r8, r9, r10, r11, r12, r13, r14, r15⟩
  obtain ⟨C', ρ'⟩ := y
  obtain ⟨D', σ'⟩ := w
  dsimp only at r1 r2 r3 r4 r5 r6 r7 r8 r9 r10 r11 r12 r13 r14 r15 ⊢
  clear hnow f1 f2 f3 f4
  have zc := sh_zc f5
  have zd := sh_zd f5
  have npc : ∀ x, (x < 19 ∨ 21 < x) ∧ x < 599 → ¬ PAc ρ x := fun x hx => Rpl_nc f5 hx
  have npd : ∀ x, (x < 547 ∨ 549 < x) ∧ x < 599 → ¬ PAd σ x := fun x hx => Rpl_nd f5 hx
  have cl : ∀ x i, (x < 13 ∨ 22 ≤ x ∧ x < 599) → ¬ (92 + 71 * t ≤ x ∧ x < 92 + 71 * t + 71) → C' x i = C x i := fun x i h1 h2 => r2.2 x i (by omega) h2 (npc x (by omega)) (fun z hz => by have := zc z hz; omega)
  have dl : ∀ x i, x < 599 → ¬ (x = 537 ∧ (i = 25 ∨ i = 26)) → (x < 542 ∨ 549 < x) → ¬ (551 ≤ x ∧ x ≤ 584 ∧ t * wd x ≤ i ∧ i < (t + 1) * wd x) → D' x i = D x i := fun x i h0 h1 h2 h4 => by
    by_cases e : x = 550
    · subst e; exact r10 i
    · exact r3.2 x i h1 (by omega) (by omega) (npd x (by omega)) (fun z hz => by have := zd z hz; omega)
  have hT : Thr C' ρ' D' rc t := by
    obtain ⟨k1, k2, k3, k4⟩ := Cat_fr m1 ht r2.1 zc (fun x i hx h1 h2 => r2.2 x i (by omega) (by omega) h1 h2)
    refine ⟨2, by omega, by rw [r8 2 (by omega)]; exact g1, by rw [r9 551 (by omega)]; exact g2, by rw [r8 0 (by omega)]; exact g3, by rw [r6, r7, g4], by rw [r8 18 (by omega), r9 562 (by omega)]; exact g5, by rw [r8 19 (by omega), r9 561 (by omega)]; exact g6, r5, fun q => absurd rfl q, fun q => absurd rfl q, Or.inr ⟨by omega, len, kd, a1, a2, a3, φ, N, H, K, k1, ?_, ?_⟩⟩
    · rw [k2, k3, k4, dcd_eq (D' := D') (D := D) (fun i => r10 i)]; exact m2
    · rw [k2, k3, k4, dcd_eq (D' := D') (D := D) (fun i => r10 i)]
      exact ⟨fun e => absurd e (by omega), fun _ => r4, fun e => absurd e (by omega)⟩
  have h16 : ∀ p, p < 26 → C' 16 p = C 16 p ∨ C' 16 p = -1 := fun p hp => by
    rw [r11 p hp]
    by_cases q : k = 0 ∧ C 16 p = nI t
    · rw [if_pos q]; exact Or.inr rfl
    · rw [if_neg q]; exact Or.inl rfl
  have e8 : dpC C t = nl l := by
    unfold dpC
    rw [mI.1, n_cl (by omega)]
  have e8' : dpC C' t = k + 1 := by
    unfold dpC
    rw [r12, n_cl (by omega)]
  obtain ⟨d, ed⟩ : ∃ d, nl l = k + 1 + d := ⟨nl l - (k + 1), by omega⟩
  have ew : wsum C' t (k + 1) ≤ wsum C t (nl l) := by
    have e0 : wsum C' t (k + 1) = wsum C t k := by
      rw [wsum, r14, wsum_congr k (fun j hj => (r13 j hj).1)]
      have : popc 0 = 0 := by decide
      rw [this, Nat.add_zero]
    have := @wsum_le C t (d + 1) k
    rw [e0, ed, show k + 1 + d = k + (d + 1) by omega]
    exact this
  have er : rsum C' t (k + 1) ≤ rsum C t (nl l) := by
    have e0 : rsum C' t (k + 1) = rsum C t k := by
      rw [rsum, rsum_congr k (fun j hj => by unfold rl; rw [(r13 j hj).2])]
      have : rl C' t k = 0 := by
        unfold rl
        rw [r15]
        decide
      rw [this, Nat.mul_zero, Nat.add_zero]
    have := @rsum_le C t (d + 1) k
    rw [e0, ed, show k + 1 + d = k + (d + 1) by omega]
    exact this
  refine ⟨_, P_pl hF' ht r2.1 r3.1 (fun x i h1 h2 h3 h4 h5 => r2.2 x i (by omega) h2 h4 h5) (fun x i h1 h2 h3 h4 h5 h6 => ?_) r1 (fun q p hp => ?_) ?_ (Nat.le_refl _) (Rsd_fr f9 (fun a i q1 q2 => cl a i (by omega) (by omega)) (dl _ _ (by omega) (by omega) (by omega) (by omega)) (fun a i q => dl a i (by omega) (by omega) (by omega) (by omega))) (Rrc_fr f10 (fun a i q1 q2 => cl a i (by omega) (by omega)) (dl _ _ (by omega) (by omega) (by omega) (by omega)) (fun a i q1 q2 => dl a i (by omega) (by omega) (by omega) (by omega))) (Bth_fr2 f13 (dl _ _ (by omega) (by omega) (by omega) (by omega)) h16 (fun u hu => ?_)) (by rw [e8']; omega) (fun _ => hT) (fun q => ?_) (fun q => ?_) (by rw [e8, e8']; omega) f15 f16, hT, r2, r3⟩
  · by_cases e : x = 550
    · subst e; exact r10 i
    · exact r3.2 x i (by omega) (by omega) (by omega) h5 h6
  · rcases h16 p hp with e | e
    · rw [e]; exact f8 q p hp
    · exact e
  · rw [dl _ _ (by omega) (by omega) (by omega) (by omega)]; exact f11
  · by_cases eu : u = t
    · subst eu
      exact ⟨r8 2 (by omega), r8 15 (by omega), r9 563 (by omega)⟩
    · have ho := oth_of (C := C) (D := D) (C' := C') (D' := D') (t := t) (fun x i h1 h2 h3 => cl x i (by omega) h3) (fun x i h1 h2 h3 => dl x i (by omega) (by omega) (by omega) h3) u hu eu
      exact ⟨ho.1 _ _ (by omega) (by omega), ho.1 _ _ (by omega) (by omega), inD_1 ho.2 (by omega)⟩
  · by_cases e : k = 0
    · rw [if_pos e]
      have := cntK_t (C := C) (C' := C') (fun p hp => by rw [r11 p hp]; simp only [e, true_and]) ht
      omega
    · rw [if_neg e]
      have := cntK_e (C := C) (C' := C') (fun p hp => by rw [r11 p hp, if_neg (fun x => e x.1)])
      omega
  · have h0 : (if k = 0 then cntT C t 0 26 else 0) = 0 := by
      by_cases e : k = 0
      · rw [if_pos e]
        refine cntT_0 (fun p _ hp h => ?_)
        rw [f8 q p (by omega)] at h
        have := n_neg (n := t) (by omega)
        rw [← h] at this
        exact absurd rfl (by rw [this]; exact id)
      · rw [if_neg e]
    rw [h0, e8, e8']
    omega

section Stb7
variable {C D : ao_M} {ρ σ : ao_H} {kp rc nw bw br t len kd a1 a2 a3 : Nat} {φ : Nat → Nat} {N : Ns} {H K : Nat → Nat}
/-- is there news for a sleeper? -/
def NwP (D : ao_M) (t : Nat) : Prop := ∃ p, p < 26 ∧ D 577 (t * 12 * 26 + p) = 1 ∧ D 542 p ≠ D 579 (t * 12 * 26 + p) ∧ D 544 p = -1
theorem c_news {ps : List Nat} {vs ws : Nat → Int32} {Q : Int32 × ao_M → Prop} (f1 : ShA ρ) (f2 : ShB ρ) (ht : t < 6) (h0 : C (92 + 71 * t) 0 = nI t) (hrd : RdC C (92 + 71 * t + 8) ps vs ws) (htk : ∀ p, p < 26 → C 16 p ≠ nI t) (q1 : (∃ p ∈ ps, C 14 p ≠ vs p ∧ C 16 p = -1) → Q (1, C)) (q0 : ¬ (∃ p ∈ ps, C 14 p ≠ vs p ∧ C 16 p = -1) → Q (0, C)) : hv (fun n => gX2_hasNews n 12 (92 + 71 * t) C ρ) Q := by
  have hR := RnS_of f2 ht
  have hl := LvS_of f2 ht (show 0 < 10 by omega)
  rw [Nat.mul_zero, Nat.add_zero] at hl
  have hlen := RdC_len hrd
  obtain ⟨r3, r1, -, -, r6⟩ := hrd
  have main : ∀ (m i : Nat), i + m = ps.length → (∀ (j : Nat) (h : j < ps.length), j < i → ¬ (C 14 ps[j] ≠ vs ps[j] ∧ C 16 ps[j] = -1)) → hv (fun n => fX2_hasNews n 8 12 (92 + 71 * t) (92 + 71 * t + 8) (nI i) 0 C ρ) Q := by
    intro m
    induction m with
    | zero =>
      intro i h hn
      obtain rfl : i = ps.length := by omega
      have := q0 (by
        rintro ⟨p, hp, hx⟩
        obtain ⟨j, hj, rfl⟩ := List.mem_iff_getElem.mp hp
        exact hn j hj hj hx)
      clear q0 q1
      refine hv_up (fun _ => fX2_hasNews.eq_2 ..) ?_
      try simp only [↓reduceIte, Nat.reduceEqDiff, Option.bind_some, ao_let, n_ell, hl, r3]
      try simp (disch := first | omega | assumption) only [↓reduceIte, Nat.reduceEqDiff, Option.bind_some, ao_let, t_le, f_le, t_lt, f_lt, f_eq, u_eq, u_n1, u_n2, n_cl, n_lt, n_le, n_eq, n_ltl, n_llt, n_lel, n_lle, n_eql, n_leq, n_add, n_mul, n_sub, n_addl, n_ladd, n_mull, n_lmul, n_subl, Int32.reduceLT, Int32.reduceLE, Int32.reduceAdd, Int32.reduceSub, Int32.reduceMul, Int32.reduceToNatClampNeg, not_false_eq_true, not_true_eq_false, or_false, false_or, or_self, and_self, false_and, true_and, and_false, and_true, true_or, or_true, Nat.reduceAdd, Nat.reduceMul, Nat.reduceLT, Nat.reduceLeDiff, ne_eq, n_ell, hl, r3]
      exact hv_some this
    | succ m ih =>
      intro i h hn
      have hi : i < ps.length := by omega
      obtain ⟨e1, e2, -⟩ := r1 i hi
      have hp := r6 _ (List.getElem_mem hi)
      have nx : ¬ (C 14 ps[i] ≠ vs ps[i] ∧ C 16 ps[i] = -1) → ∀ v, hv (fun n => fX2_hasNews n 79 12 (92 + 71 * t) (92 + 71 * t + 8) (nI i) v C ρ) Q := by
        intro hx v
        refine hv_up (fun _ => fX2_hasNews.eq_2 ..) ?_
        simp only [↓reduceIte, Nat.reduceEqDiff, ao_let, n_addl]
        refine ih (i + 1) (by omega) (fun j hj hji => ?_)
        by_cases e : j = i
        · subst e; exact hx
        · exact hn j hj (by omega)
      have ht1 := htk _ hp
      by_cases e3 : C 16 ps[i] = -1
      · by_cases e4 : C 14 ps[i] = vs ps[i]
        · have := nx (fun z => z.1 e4) (nI ps[i])
          clear nx ih q0 q1 hn
          refine hv_up (fun _ => fX2_hasNews.eq_2 ..) ?_
          try simp only [↓reduceIte, Nat.reduceEqDiff, Option.bind_some, ao_let, n_ell, f1, hR, hl, r3, e1, e2, gX5_isTakenByOther, e3, e4]
          try simp (disch := first | omega | assumption) only [↓reduceIte, Nat.reduceEqDiff, Option.bind_some, ao_let, t_le, f_le, t_lt, f_lt, f_eq, u_eq, u_n1, u_n2, n_cl, n_lt, n_le, n_eq, n_ltl, n_llt, n_lel, n_lle, n_eql, n_leq, n_add, n_mul, n_sub, n_addl, n_ladd, n_mull, n_lmul, n_subl, Int32.reduceLT, Int32.reduceLE, Int32.reduceAdd, Int32.reduceSub, Int32.reduceMul, Int32.reduceToNatClampNeg, not_false_eq_true, not_true_eq_false, or_false, false_or, or_self, and_self, false_and, true_and, and_false, and_true, true_or, or_true, Nat.reduceAdd, Nat.reduceMul, Nat.reduceLT, Nat.reduceLeDiff, ne_eq, n_ell, f1, hR, hl, r3, e1, e2, gX5_isTakenByOther, e3, e4]
          exact this
        · have := q1 ⟨ps[i], List.getElem_mem hi, e4, e3⟩
          clear nx ih q0 q1 hn
          refine hv_up (fun _ => fX2_hasNews.eq_2 ..) ?_
          try simp only [↓reduceIte, Nat.reduceEqDiff, Option.bind_some, ao_let, n_ell, f1, hR, hl, r3, e1, e2, gX5_isTakenByOther, e3, e4]
          try simp (disch := first | omega | assumption) only [↓reduceIte, Nat.reduceEqDiff, Option.bind_some, ao_let, t_le, f_le, t_lt, f_lt, f_eq, u_eq, u_n1, u_n2, n_cl, n_lt, n_le, n_eq, n_ltl, n_llt, n_lel, n_lle, n_eql, n_leq, n_add, n_mul, n_sub, n_addl, n_ladd, n_mull, n_lmul, n_subl, Int32.reduceLT, Int32.reduceLE, Int32.reduceAdd, Int32.reduceSub, Int32.reduceMul, Int32.reduceToNatClampNeg, not_false_eq_true, not_true_eq_false, or_false, false_or, or_self, and_self, false_and, true_and, and_false, and_true, true_or, or_true, Nat.reduceAdd, Nat.reduceMul, Nat.reduceLT, Nat.reduceLeDiff, ne_eq, n_ell, f1, hR, hl, r3, e1, e2, gX5_isTakenByOther, e3, e4]
          exact hv_some this
      · have := nx (fun z => e3 z.2) (nI ps[i])
        have ht2 : (C 16 ps[i] = nI t) = False := eq_false ht1
        clear nx ih q0 q1 hn
        refine hv_up (fun _ => fX2_hasNews.eq_2 ..) ?_
        try simp only [↓reduceIte, Nat.reduceEqDiff, Option.bind_some, ao_let, n_ell, f1, hR, hl, r3, e1, e2, h0, gX5_isTakenByOther, e3, ht2, show ((1 : Int32) = 0) = False from by decide]
        try simp (disch := first | omega | assumption) only [↓reduceIte, Nat.reduceEqDiff, Option.bind_some, ao_let, t_le, f_le, t_lt, f_lt, f_eq, u_eq, u_n1, u_n2, n_cl, n_lt, n_le, n_eq, n_ltl, n_llt, n_lel, n_lle, n_eql, n_leq, n_add, n_mul, n_sub, n_addl, n_ladd, n_mull, n_lmul, n_subl, Int32.reduceLT, Int32.reduceLE, Int32.reduceAdd, Int32.reduceSub, Int32.reduceMul, Int32.reduceToNatClampNeg, not_false_eq_true, not_true_eq_false, or_false, false_or, or_self, and_self, false_and, true_and, and_false, and_true, true_or, or_true, Nat.reduceAdd, Nat.reduceMul, Nat.reduceLT, Nat.reduceLeDiff, ne_eq, n_ell, f1, hR, hl, r3, e1, e2, h0, gX5_isTakenByOther, e3, ht2, show ((1 : Int32) = 0) = False from by decide]
        exact this
  unfold gX2_hasNews
  refine hv_up (fun _ => fX2_hasNews.eq_2 ..) ?_
  simp only [↓reduceIte, hR]
  refine hv_bind (P := fun y => y = (92 + 71 * t + 8 + 6 * 0, C)) (c_level (j := 0) f2 ht (by omega) C rfl) ?_
  rintro _ rfl
  exact main ps.length 0 (by omega) (fun j hj hji => absurd hji (by omega))
theorem d_wakes {Q : Int32 × ao_M → Prop} (f4 : ShD σ) (ht : t < 6) (hf : ∀ p, p < 26 → D 577 (t * 12 * 26 + p) = 0 ∨ D 577 (t * 12 * 26 + p) = 1) (htk : ∀ p, p < 26 → D 544 p = -1 ∨ ∃ u, u < 6 ∧ D 544 p = nI u) (hlz : ¬ (D 537 27 = 3 ∨ D 537 27 = 4) → ∀ p, p < 26 → D 544 p = -1) (q1 : NwP D t → Q (1, D)) (q0 : ¬ NwP D t → Q (0, D)) : hv (fun n => gX12_wakes n 537 (nI t) D σ) Q := by
  have main : ∀ (m p : Nat), p + m = 26 → (∀ q, q < p → ¬ (D 577 (t * 12 * 26 + q) = 1 ∧ D 542 q ≠ D 579 (t * 12 * 26 + q) ∧ D 544 q = -1)) → hv (fun n => fX12_wakes n 2 537 (nI t) (nI p) 0 D σ) Q := by
    intro m
    induction m with
    | zero =>
      intro p h hn
      obtain rfl : p = 26 := by omega
      have := q0 (by
        rintro ⟨q, h1, h2⟩
        exact hn q h1 h2)
      clear q0 q1
      refine hv_up (fun _ => fX12_wakes.eq_2 ..) ?_
      try simp only [↓reduceIte, Nat.reduceEqDiff, Option.bind_some, ao_let, n_ell]
      try simp (disch := first | omega | assumption) only [↓reduceIte, Nat.reduceEqDiff, Option.bind_some, ao_let, t_le, f_le, t_lt, f_lt, f_eq, u_eq, u_n1, u_n2, n_cl, n_lt, n_le, n_eq, n_ltl, n_llt, n_lel, n_lle, n_eql, n_leq, n_add, n_mul, n_sub, n_addl, n_ladd, n_mull, n_lmul, n_subl, Int32.reduceLT, Int32.reduceLE, Int32.reduceAdd, Int32.reduceSub, Int32.reduceMul, Int32.reduceToNatClampNeg, not_false_eq_true, not_true_eq_false, or_false, false_or, or_self, and_self, false_and, true_and, and_false, and_true, true_or, or_true, Nat.reduceAdd, Nat.reduceMul, Nat.reduceLT, Nat.reduceLeDiff, ne_eq, n_ell]
      exact hv_some this
    | succ m ih =>
      intro p h hn
      have hp : p < 26 := by omega
      have nx : ¬ (D 577 (t * 12 * 26 + p) = 1 ∧ D 542 p ≠ D 579 (t * 12 * 26 + p) ∧ D 544 p = -1) → ∀ v, hv (fun n => fX12_wakes n 58 537 (nI t) (nI p) v D σ) Q := by
        intro hx v
        refine hv_up (fun _ => fX12_wakes.eq_2 ..) ?_
        simp only [↓reduceIte, Nat.reduceEqDiff, ao_let, n_addl]
        refine ih (p + 1) (by omega) (fun q hq => ?_)
        by_cases e : q = p
        · subst e; exact hx
        · exact hn q (by omega)
      have h10 : ((1 : Int32) = 0) = False := by decide
      rcases hf p hp with e | e
      · have := nx (fun z => absurd (e.symm.trans z.1) (by decide)) (nI (t * 12 * 26 + p))
        clear nx ih q0 q1 hn hf htk hlz
        refine hv_up (fun _ => fX12_wakes.eq_2 ..) ?_
        try simp only [↓reduceIte, Nat.reduceEqDiff, Option.bind_some, ao_let, n_ell, f4, gX12_cell, Nat.add_zero, e]
        try simp (disch := first | omega | assumption) only [↓reduceIte, Nat.reduceEqDiff, Option.bind_some, ao_let, t_le, f_le, t_lt, f_lt, f_eq, u_eq, u_n1, u_n2, n_cl, n_lt, n_le, n_eq, n_ltl, n_llt, n_lel, n_lle, n_eql, n_leq, n_add, n_mul, n_sub, n_addl, n_ladd, n_mull, n_lmul, n_subl, Int32.reduceLT, Int32.reduceLE, Int32.reduceAdd, Int32.reduceSub, Int32.reduceMul, Int32.reduceToNatClampNeg, not_false_eq_true, not_true_eq_false, or_false, false_or, or_self, and_self, false_and, true_and, and_false, and_true, true_or, or_true, Nat.reduceAdd, Nat.reduceMul, Nat.reduceLT, Nat.reduceLeDiff, ne_eq, n_ell, f4, gX12_cell, Nat.add_zero, e]
        exact this
      · by_cases e2 : D 542 p = D 579 (t * 12 * 26 + p)
        · have := nx (fun z => z.2.1 e2) (nI (t * 12 * 26 + p))
          clear nx ih q0 q1 hn hf htk hlz
          refine hv_up (fun _ => fX12_wakes.eq_2 ..) ?_
          try simp only [↓reduceIte, Nat.reduceEqDiff, Option.bind_some, ao_let, n_ell, f4, gX12_cell, Nat.add_zero, e, e2, h10]
          try simp (disch := first | omega | assumption) only [↓reduceIte, Nat.reduceEqDiff, Option.bind_some, ao_let, t_le, f_le, t_lt, f_lt, f_eq, u_eq, u_n1, u_n2, n_cl, n_lt, n_le, n_eq, n_ltl, n_llt, n_lel, n_lle, n_eql, n_leq, n_add, n_mul, n_sub, n_addl, n_ladd, n_mull, n_lmul, n_subl, Int32.reduceLT, Int32.reduceLE, Int32.reduceAdd, Int32.reduceSub, Int32.reduceMul, Int32.reduceToNatClampNeg, not_false_eq_true, not_true_eq_false, or_false, false_or, or_self, and_self, false_and, true_and, and_false, and_true, true_or, or_true, Nat.reduceAdd, Nat.reduceMul, Nat.reduceLT, Nat.reduceLeDiff, ne_eq, n_ell, f4, gX12_cell, Nat.add_zero, e, e2, h10]
          exact this
        · by_cases hE : D 537 27 = 3 ∨ D 537 27 = 4
          · rcases htk p hp with e3 | ⟨u, hu, e3⟩
            · have := q1 ⟨p, hp, e, e2, e3⟩
              clear nx ih q0 q1 hn hf htk hlz
              refine hv_up (fun _ => fX12_wakes.eq_2 ..) ?_
              try simp only [↓reduceIte, Nat.reduceEqDiff, Option.bind_some, ao_let, n_ell, f4, gX12_cell, Nat.add_zero, e, e2, h10]
              try simp (disch := first | omega | assumption) only [↓reduceIte, Nat.reduceEqDiff, Option.bind_some, ao_let, t_le, f_le, t_lt, f_lt, f_eq, u_eq, u_n1, u_n2, n_cl, n_lt, n_le, n_eq, n_ltl, n_llt, n_lel, n_lle, n_eql, n_leq, n_add, n_mul, n_sub, n_addl, n_ladd, n_mull, n_lmul, n_subl, Int32.reduceLT, Int32.reduceLE, Int32.reduceAdd, Int32.reduceSub, Int32.reduceMul, Int32.reduceToNatClampNeg, not_false_eq_true, not_true_eq_false, or_false, false_or, or_self, and_self, false_and, true_and, and_false, and_true, true_or, or_true, Nat.reduceAdd, Nat.reduceMul, Nat.reduceLT, Nat.reduceLeDiff, ne_eq, n_ell, f4, gX12_cell, Nat.add_zero, e, e2, h10]
              refine hv_bind (P := fun y => y = (1, D)) (dv_eagerT f4 D hE rfl) ?_
              rintro _ rfl
              try simp only [↓reduceIte, Nat.reduceEqDiff, Option.bind_some, ao_let, n_ell, f4, e3, h10, n_g2]
              try simp (disch := first | omega | assumption) only [↓reduceIte, Nat.reduceEqDiff, Option.bind_some, ao_let, t_le, f_le, t_lt, f_lt, f_eq, u_eq, u_n1, u_n2, n_cl, n_lt, n_le, n_eq, n_ltl, n_llt, n_lel, n_lle, n_eql, n_leq, n_add, n_mul, n_sub, n_addl, n_ladd, n_mull, n_lmul, n_subl, Int32.reduceLT, Int32.reduceLE, Int32.reduceAdd, Int32.reduceSub, Int32.reduceMul, Int32.reduceToNatClampNeg, not_false_eq_true, not_true_eq_false, or_false, false_or, or_self, and_self, false_and, true_and, and_false, and_true, true_or, or_true, Nat.reduceAdd, Nat.reduceMul, Nat.reduceLT, Nat.reduceLeDiff, ne_eq, n_ell, f4, e3, h10, n_g2]
              exact hv_some this
            · have := nx (fun z => by
                rw [e3] at z
                have := n_neg (n := u) (by omega)
                rw [z.2.2] at this
                exact absurd rfl (by rw [this]; exact id)) (nI (t * 12 * 26 + p))
              clear nx ih q0 q1 hn hf htk hlz
              refine hv_up (fun _ => fX12_wakes.eq_2 ..) ?_
              try simp only [↓reduceIte, Nat.reduceEqDiff, Option.bind_some, ao_let, n_ell, f4, gX12_cell, Nat.add_zero, e, e2, h10]
              try simp (disch := first | omega | assumption) only [↓reduceIte, Nat.reduceEqDiff, Option.bind_some, ao_let, t_le, f_le, t_lt, f_lt, f_eq, u_eq, u_n1, u_n2, n_cl, n_lt, n_le, n_eq, n_ltl, n_llt, n_lel, n_lle, n_eql, n_leq, n_add, n_mul, n_sub, n_addl, n_ladd, n_mull, n_lmul, n_subl, Int32.reduceLT, Int32.reduceLE, Int32.reduceAdd, Int32.reduceSub, Int32.reduceMul, Int32.reduceToNatClampNeg, not_false_eq_true, not_true_eq_false, or_false, false_or, or_self, and_self, false_and, true_and, and_false, and_true, true_or, or_true, Nat.reduceAdd, Nat.reduceMul, Nat.reduceLT, Nat.reduceLeDiff, ne_eq, n_ell, f4, gX12_cell, Nat.add_zero, e, e2, h10]
              refine hv_bind (P := fun y => y = (1, D)) (dv_eagerT f4 D hE rfl) ?_
              rintro _ rfl
              try simp only [↓reduceIte, Nat.reduceEqDiff, Option.bind_some, ao_let, n_ell, f4, e3, h10]
              try simp (disch := first | omega | assumption) only [↓reduceIte, Nat.reduceEqDiff, Option.bind_some, ao_let, t_le, f_le, t_lt, f_lt, f_eq, u_eq, u_n1, u_n2, n_cl, n_lt, n_le, n_eq, n_ltl, n_llt, n_lel, n_lle, n_eql, n_leq, n_add, n_mul, n_sub, n_addl, n_ladd, n_mull, n_lmul, n_subl, Int32.reduceLT, Int32.reduceLE, Int32.reduceAdd, Int32.reduceSub, Int32.reduceMul, Int32.reduceToNatClampNeg, not_false_eq_true, not_true_eq_false, or_false, false_or, or_self, and_self, false_and, true_and, and_false, and_true, true_or, or_true, Nat.reduceAdd, Nat.reduceMul, Nat.reduceLT, Nat.reduceLeDiff, ne_eq, n_ell, f4, e3, h10]
              exact this
          · have := q1 ⟨p, hp, e, e2, hlz hE p hp⟩
            clear nx ih q0 q1 hn hf htk hlz
            refine hv_up (fun _ => fX12_wakes.eq_2 ..) ?_
            try simp only [↓reduceIte, Nat.reduceEqDiff, Option.bind_some, ao_let, n_ell, f4, gX12_cell, Nat.add_zero, e, e2, h10]
            try simp (disch := first | omega | assumption) only [↓reduceIte, Nat.reduceEqDiff, Option.bind_some, ao_let, t_le, f_le, t_lt, f_lt, f_eq, u_eq, u_n1, u_n2, n_cl, n_lt, n_le, n_eq, n_ltl, n_llt, n_lel, n_lle, n_eql, n_leq, n_add, n_mul, n_sub, n_addl, n_ladd, n_mull, n_lmul, n_subl, Int32.reduceLT, Int32.reduceLE, Int32.reduceAdd, Int32.reduceSub, Int32.reduceMul, Int32.reduceToNatClampNeg, not_false_eq_true, not_true_eq_false, or_false, false_or, or_self, and_self, false_and, true_and, and_false, and_true, true_or, or_true, Nat.reduceAdd, Nat.reduceMul, Nat.reduceLT, Nat.reduceLeDiff, ne_eq, n_ell, f4, gX12_cell, Nat.add_zero, e, e2, h10]
            refine hv_bind (P := fun y => y = (0, D)) (dv_eagerF f4 D hE rfl) ?_
            rintro _ rfl
            simp only [↓reduceIte]
            exact hv_some this
  unfold gX12_wakes
  refine hv_up (fun _ => fX12_wakes.eq_2 ..) ?_
  simp only [↓reduceIte]
  exact main 26 0 rfl (fun q hq => absurd hq (by omega))
/-- how many positions lie further on -/
def fur (K : Nat → Nat) (len a : Nat) : Nat := (List.range (len + 1)).countP (fun x => decide (K a < K x))
theorem fur_lt {a a' : Nat} (h : K a < K a') (ha : a' ≤ len) : fur K len a' < fur K len a := by
  unfold fur
  have hm : a' ∈ List.range (len + 1) := by simp; omega
  have : ∀ (l : List Nat), a' ∈ l → l.countP (fun x => decide (K a' < K x)) < l.countP (fun x => decide (K a < K x)) := by
    intro l
    induction l with
    | nil => intro h; exact absurd h (by simp)
    | cons x l ih =>
      intro hx
      have hle : l.countP (fun x => decide (K a' < K x)) ≤ l.countP (fun x => decide (K a < K x)) := List.countP_mono_left (fun y _ hy => by
        simp only [decide_eq_true_eq] at hy ⊢
        omega)
      rw [List.countP_cons, List.countP_cons]
      rcases List.mem_cons.mp hx with rfl | hx'
      · simp only [h, Nat.lt_irrefl, decide_true, decide_false, ↓reduceIte, Bool.false_eq_true]
        omega
      · have := ih hx'
        by_cases q : K a' < K x
        · have q2 : K a < K x := by omega
          simp only [q, q2, decide_true, ↓reduceIte]
          omega
        · simp only [q, decide_false, ↓reduceIte, Bool.false_eq_true]
          omega
  exact this _ hm
theorem fur_le {a : Nat} : fur K len a ≤ len + 1 := by
  unfold fur
  have := List.countP_le_length (p := fun x => decide (K a < K x)) (l := List.range (len + 1))
  rw [List.length_range] at this
  exact this
/-- what a turn ends with -/
def TnP (n bw br : Nat) (y w : Int32 × ao_S) : Prop := ∃ nw, nw / 2 = n ∧ EndE nw (bw + 1) (br + 11) y w
theorem step_22 {n : Nat} {x : Int32} {w : Int32 × ao_S} (h : gX12_step (n + 1) 537 x D σ = some w) : σ.2.1 537 = 22 := by
  refine Classical.byContradiction fun hn => ?_
  unfold gX12_step at h
  rw [fX12_step.eq_2] at h
  simp only [↓reduceIte, hn] at h
  exact absurd h (by simp)
theorem d_88 {P : Int32 × ao_S → Prop} (f4 : σ.2.1 537 = 22) (h : hv (fun n => gX12_step n 537 (nI t) D σ) (fun w => (w.1 = -1 ∧ hv (fun n => fX12_takeTurn n 88 537 (nI t) (-1) 0 w.2.1 w.2.2) P) ∨ (¬ w.1 < 0 ∧ P w))) : hv (fun n => fX12_takeTurn n 88 537 (nI t) (-1) 0 D σ) P := by
  refine hv_up (fun _ => fX12_takeTurn.eq_2 ..) ?_
  simp only [↓reduceIte, Nat.reduceEqDiff, n_g2, f4]
  refine hv_bind h ?_
  rintro ⟨x, M, θ⟩ (⟨e, h⟩ | ⟨e, h⟩)
  · dsimp only at e h
    subst e
    refine hv_up (fun _ => fX12_takeTurn.eq_2 ..) ?_
    simp only [↓reduceIte, Nat.reduceEqDiff]
    exact h
  · dsimp only at e
    refine hv_up (fun _ => fX12_takeTurn.eq_2 ..) ?_
    simp only [↓reduceIte, Nat.reduceEqDiff]
    refine hv_up (fun _ => fX12_takeTurn.eq_2 ..) ?_
    have e' : (0 : Int32) ≤ x := Int32.not_lt.mp e
    simp only [↓reduceIte, Nat.reduceEqDiff, e']
    exact hv_some h
theorem turn_one {n bw br i a s kp rc : Nat} {C D : ao_M} {ρ σ : ao_H} (ht : t < 6) (hbw : bw + 1 ≤ 28000) (hbr : br + 11 ≤ 100000000) {m : Nat} (hi : i + m < 900000) (hF : Full C ρ D σ kp rc (2 * n) bw br) (ho : Opn C ρ D rc t s len kd a1 a2 a3 φ N H K a)
    (hg : ∀ y w, GoE (2 * n) bw br t len kd a1 a2 a3 φ N H K a y w → hv (fun n => fX2_takeTurn n 55 12 (92 + 71 * t) (nI (i + 1)) 0 y.2.1 y.2.2) (fun y' => hv (fun n => fX12_takeTurn n 88 537 (nI t) (-1) 0 w.2.1 w.2.2) (fun w' => TnP n bw br y' w'))) :
    hv (fun n => fX2_takeTurn n 55 12 (92 + 71 * t) (nI i) 0 C ρ) (fun y => hv (fun n => fX12_takeTurn n 88 537 (nI t) (-1) 0 D σ) (fun w => TnP n bw br y w)) := by
  have f1 := hF.1.1
  have f4 := hF.1.2.2.2
  refine hv_up (fun _ => fX2_takeTurn.eq_2 ..) ?_
  simp (disch := omega) only [↓reduceIte, Nat.reduceEqDiff, n_lle, f_le, f1]
  refine hv_bind (step_all hF ht ho hbw hbr) ?_
  rintro ⟨yb, y1, y2⟩ hy
  -- the reference's steps
  have key : ∃ w, StP n bw br t len kd a1 a2 a3 φ N H K a (yb, y1, y2) w ∧ ∀ P : Int32 × ao_S → Prop, ((w.1 = -1 ∧ hv (fun n => fX12_takeTurn n 88 537 (nI t) (-1) 0 w.2.1 w.2.2) P) ∨ (¬ w.1 < 0 ∧ P w)) → hv (fun n => fX12_takeTurn n 88 537 (nI t) (-1) 0 D σ) P := by
    rcases hy with ⟨N1, w, e1, h1⟩ | ⟨w0, ⟨N0, w0', e0, h0⟩, hw0, N1, w, e1, h1⟩
    · exact ⟨w, h1, fun P hP => d_88 f4.1 ⟨N1, w, e1, hP⟩⟩
    · subst h0
      refine ⟨w, h1, fun P hP => d_88 f4.1 ⟨N0, w0', e0, Or.inl ⟨hw0, ?_⟩⟩⟩
      exact d_88 (step_22 (e1 (N1 + 1) (by omega))) ⟨N1, w, e1, hP⟩
  obtain ⟨⟨wb, w1, w2⟩, hst, hcont⟩ := key
  rcases hst with hgo | ⟨nw, hn, kp', rc', e1, e2, e3⟩
  · obtain ⟨g1, g2, -⟩ := id hgo
    dsimp only at g1 g2
    subst g1 g2
    refine hv_up (fun _ => fX2_takeTurn.eq_2 ..) ?_
    simp only [↓reduceIte, Nat.reduceEqDiff, ao_let, n_addl]
    refine hv_mono (hg _ _ hgo) (fun y' hy' => hcont _ (Or.inl ⟨rfl, hy'⟩))
  · dsimp only at e1 e2
    have hne : (yb = -1) = False := eq_false (fun z => e2 (by rw [z]; decide))
    refine hv_up (fun _ => fX2_takeTurn.eq_2 ..) ?_
    simp only [↓reduceIte, Nat.reduceEqDiff, hne]
    refine hv_some (hcont _ (Or.inr ⟨by rw [← e1]; exact e2, nw, hn, kp', rc', e1, e2, e3⟩))
theorem turn_loop {n bw br : Nat} (ht : t < 6) (hbw : bw + 1 ≤ 28000) (hbr : br + 11 ≤ 100000000) : ∀ (m i a s kp rc : Nat) (C D : ao_M) (ρ σ : ao_H), fur K len a ≤ m → i + m < 900000 → Full C ρ D σ kp rc (2 * n) bw br → Opn C ρ D rc t s len kd a1 a2 a3 φ N H K a →
    hv (fun n => fX2_takeTurn n 55 12 (92 + 71 * t) (nI i) 0 C ρ) (fun y => hv (fun n => fX12_takeTurn n 88 537 (nI t) (-1) 0 D σ) (fun w => TnP n bw br y w)) := by
  intro m
  induction m with
  | zero =>
    intro i a s kp rc C D ρ σ hm hi hF ho
    exact turn_one ht hbw hbr hi hF ho (fun y w hg => by
      obtain ⟨-, -, kp', rc', s', a', h1, h2, h3⟩ := hg
      have := fur_lt (len := len) h1 h3.2.2.2.2.2.2.2.2.2.2.1
      omega)
  | succ m ih =>
    intro i a s kp rc C D ρ σ hm hi hF ho
    exact turn_one ht hbw hbr hi hF ho (fun y w hg => by
      obtain ⟨-, -, kp', rc', s', a', h1, h2, h3⟩ := hg
      have := fur_lt (len := len) h1 h3.2.2.2.2.2.2.2.2.2.2.1
      exact ih (i + 1) a' s' kp' rc' _ _ _ _ (by omega) (by omega) h2 h3)
end Stb7
