set_option linter.unusedSimpArgs false
set_option linter.unusedVariables false
/-! ===== calls between calls: those that tell ===== -/
theorem hv_ex {α : Type} {f : Nat → Option α} {P : α → Prop} (h : hv f P) : ∃ y, P y ∧ ∀ R : α → Prop, R y → hv f R := by
  obtain ⟨N, y, e, p⟩ := h
  exact ⟨y, p, fun R r => ⟨N, y, e, r⟩⟩
theorem cP_s {f : Nat → Prop} [DecidablePred f] (u k : Nat) : (List.range' u (k + 1)).countP (fun p => decide (f p)) = (if f u then 1 else 0) + (List.range' (u + 1) k).countP (fun p => decide (f p)) := by
  rw [List.range'_succ, List.countP_cons]
  by_cases h : f u
  · rw [if_pos h, if_pos (by simpa using h)]
    omega
  · rw [if_neg h, if_neg (by simpa using h)]
    omega
theorem hv_and {α : Type} {f : Nat → Option α} {P R : α → Prop} (h : hv f P) (g : ∀ n z, f n = some z → R z) : hv f (fun y => P y ∧ R y) := by
  obtain ⟨N, y, e, p⟩ := h
  exact ⟨N, y, e, p, g N y (e N (Nat.le_refl _))⟩
theorem ex_ne1 : (("java/lang/IndexOutOfBoundsException" : String) = "java/lang/IllegalArgumentException") = False := eq_false (by first | decide | simp)
theorem ex_ne2 : (("java/lang/IllegalStateException" : String) = "java/lang/IllegalArgumentException") = False := eq_false (by first | decide | simp)
theorem ex_ne3 : (("java/lang/UnsupportedOperationException" : String) = "java/lang/IllegalArgumentException") = False := eq_false (by first | decide | simp)
theorem ex_ne4 : (("java/lang/UnsupportedOperationException" : String) = "java/lang/IllegalStateException") = False := eq_false (by first | decide | simp)
theorem tk_e {C C' : ao_M} {x i : Nat} (h12 : ∀ j, C' 12 j = C 12 j) (h : C' x i = C x i) : tk C' x i = tk C x i := by
  unfold tk ao_u
  simp only [h12, h]
section Cc0
variable {m B1 B2 E1 E2 : Nat} {C D : ao_M} {ρ σ : ao_H}
/-- what there is between calls -/
def PC0 (C : ao_M) (ρ : ao_H) (D : ao_M) (σ : ao_H) : Prop := (ShA ρ ∧ ShB ρ ∧ ShG ρ ∧ ShD σ ∧ ShO ρ) ∧ (∃ kp, kp ≤ 28000 ∧ Rpl kp C ρ D σ) ∧ (C 12 5 = D 537 27 ∧ ∃ w, w ≤ 4 ∧ D 537 27 = nI w) ∧ (∃ n, n ≤ 20000 ∧ C 12 4 = nI n ∧ D 537 65 = nI n) ∧ (Rjd C D ∧ Rtp C D ∧ C 0 5 = D 537 3) ∧ Rsd C D ∧ Rrc C D ∧ (∃ rc, ∀ t, t < 6 → Thr C ρ D rc t) ∧ ∀ i, i < 300 → C 29 i ≤ C 30 i
theorem Enr_kp {kp rc bw br : Nat} (h : Enr C D kp rc bw br) : kp ≤ bw := by
  obtain ⟨e1, e2, -⟩ := h
  by_cases q : D 537 27 = 3 ∨ D 537 27 = 4
  · have := e1 q
    omega
  · have := e2 q
    omega
theorem PR_C (h : PR m B1 B2 E1 E2 C ρ D σ) : PC0 C ρ D σ := by
  obtain ⟨kp, rc, n, ⟨h1, h2⟩, h3, h4, h5, h6⟩ := h
  obtain ⟨⟨f1, f2, f3, f4⟩, f5, ⟨f6, f7, fX⟩, f8, f9, f10, f11, f12, f13, f14, f15, f16⟩ := h2
  obtain ⟨⟨k, k1, k2, k3, k4⟩, ⟨l, l1, l2, l3, l4⟩, e3, e4, e5, e6, e7, -⟩ := fX
  have hkp := Enr_kp f14
  rw [Nat.mul_div_cancel_left _ (by omega)] at e4 e6
  rw [u_ne (by omega)] at e6 k3 l3
  refine ⟨⟨f1, f2, f3, f4, h5⟩, ⟨kp, by omega, Rpl_cell (k := 0) f5 (fun x i hx => (tk_n (by omega)).symm) (fun x i hx => (u_ne (by omega)).symm)⟩, ⟨?_, ?_⟩, ⟨n, e4, h1, e6⟩, ⟨⟨k, k1, ?_, k3, fun i hi => ?_⟩, ⟨l, l1, ?_, l3, fun i hi => ?_⟩, ?_⟩, Rsd_fr f9 (fun a i q1 q2 => (tk_n (by omega)).symm) (u_ne (by omega)).symm (fun a i q => (u_ne (by omega)).symm), Rrc_fr f10 (fun a i q1 q2 => (tk_n (by omega)).symm) (u_ne (by omega)).symm (fun a i q1 q2 => (u_ne (by omega)).symm), ⟨rc, fun t ht => Thr_own (f12 t ht) ht (fun a i q1 q2 => (tk_n (by omega)).symm) (fun a i q1 q2 _ _ => (u_ne (by omega)).symm) (fun _ _ _ _ _ g => Cat_loc g (fun x i hx => (tk_n (by omega)).symm))⟩, fun i hi => ?_⟩
  · rw [tk_n (by omega), u_ne (by omega)] at f6; exact f6
  · rw [u_ne (by omega)] at f7; exact f7
  · rw [tk_n (by omega)] at k2; exact k2
  · have := k4 i hi
    rw [tk_n (by omega), u_ne (by omega)] at this; exact this
  · rw [tk_n (by omega)] at l2; exact l2
  · have := l4 i hi
    rw [tk_n (by omega), u_ne (by omega)] at this; exact this
  · rw [tk_n (by omega), u_ne (by omega)] at e3; exact e3
  · obtain ⟨⟨-, rm, ⟨-, -, -, -, -, a6⟩, -⟩, -⟩ := h3
    exact a6 i hi
theorem PR_has (h : PR m B1 B2 E1 E2 C ρ D σ) (hm : m + 1 ≤ 512) (x : Int32) : hv (fun n => gL_has n 0 x 598 C ρ) (fun y => hv (fun n => gX12_has n 537 x D σ) (fun w => CR m B1 B2 E1 E2 y w.1 w.2 σ)) := by
  obtain ⟨⟨p1, p2, p3, p4, p5⟩, ⟨kp, p6, f, g, hh, pc, pd, ch, ev, ec⟩, -⟩ := PR_C h
  exact hv_mono (call_has p1 p5 p4 (fun p hp => (ev p hp).1) x) (fun y hy => hv_mono hy (fun w hw => PR_tell h hm hw))
theorem PR_register (h : PR m B1 B2 E1 E2 C ρ D σ) (hm : m + 1 ≤ 512) (x z : Int32) : hv (fun n => gL_register n 0 x z 598 C ρ) (fun y => hv (fun n => gX12_register n 537 x z D σ) (fun w => CR m B1 B2 E1 E2 y w.1 w.2 σ)) := by
  obtain ⟨⟨p1, p2, p3, p4, p5⟩, -, -, -, -, -, -, ⟨rc, hT⟩, -⟩ := PR_C h
  refine hv_mono (call_register p1 p2 p5 p4 (fun t ht => ?_) x z) (fun y hy => hv_mono hy (fun w hw => PR_tell h hm hw))
  obtain ⟨s, a1, a2, a3, a4, a5, a6, a7, a8, -⟩ := hT t ht
  exact a8
theorem PR_had (h : PR m B1 B2 E1 E2 C ρ D σ) (hm : m + 1 ≤ 512) (x z : Int32) : hv (fun n => gL_had n 0 x z 598 C ρ) (fun y => hv (fun n => gX12_had n 537 x z D σ) (fun w => CR m B1 B2 E1 E2 y w.1 w.2 σ)) := by
  obtain ⟨⟨p1, p2, p3, p4, p5⟩, ⟨kp, p6, p7⟩, -⟩ := PR_C h
  exact hv_mono (call_had p1 p5 p4 (by omega) p7 x z) (fun y hy => hv_mono hy (fun w hw => PR_tell h hm hw))
theorem PR_said (h : PR m B1 B2 E1 E2 C ρ D σ) (hm : m + 1 ≤ 512) (x z : Int32) : hv (fun n => gL_said n 0 x z 598 C ρ) (fun y => hv (fun n => gX12_said n 537 x z D σ) (fun w => CR m B1 B2 E1 E2 y w.1 w.2 σ)) := by
  obtain ⟨⟨p1, p2, p3, p4, p5⟩, -, -, -, -, p6, -⟩ := PR_C h
  exact hv_mono (call_said p1 p5 p4 p6 x z) (fun y hy => hv_mono hy (fun w hw => PR_tell h hm hw))
theorem PR_order (h : PR m B1 B2 E1 E2 C ρ D σ) (hm : m + 1 ≤ 512) (x : Int32) : hv (fun n => gL_order n 0 x 598 C ρ) (fun y => hv (fun n => gX12_order n 537 x D σ) (fun w => CR m B1 B2 E1 E2 y w.1 w.2 σ)) := by
  obtain ⟨⟨p1, p2, p3, p4, p5⟩, -, -, -, ⟨p6, -⟩, -⟩ := PR_C h
  exact hv_mono (call_order p1 p5 p4 p6 x) (fun y hy => hv_mono hy (fun w hw => PR_tell h hm hw))
theorem PR_end (h : PR m B1 B2 E1 E2 C ρ D σ) (hm : m + 1 ≤ 512) (x : Int32) : hv (fun n => gL_end n 0 x 598 C ρ) (fun y => hv (fun n => gX12_end n 537 x D σ) (fun w => CR m B1 B2 E1 E2 y w.1 w.2 σ)) := by
  obtain ⟨⟨p1, p2, p3, p4, p5⟩, -, -, -, ⟨-, p6, -⟩, -⟩ := PR_C h
  refine hv_mono (call_end p1 p5 p4 p6 x) (fun y hy => hv_mono hy (fun w hw => ?_))
  rcases hw with hw | ⟨a, b, i, c, d, e⟩
  · exact PR_tell h hm hw
  obtain ⟨y1, C', ρ'⟩ := y
  dsimp only at a b d
  subst a b d e
  refine ⟨PR_ext h hm (Or.inl rfl) (fun x j hx => ?_) (fun x j q1 q2 => ?_) ?_, ?_, fun _ => by dsimp only; exact u_eq⟩
  · dsimp only; rw [u_ne (by omega), u_ne (by omega)]
  · dsimp only; rw [u_ne (by omega), u_ne (by omega)]
  · rintro ⟨k, k1, k2, k3, k4⟩ ⟨l, l1, l2, l3, l4⟩ q
    dsimp only
    refine ⟨⟨k, k1, ?_, ?_, fun j hj => ?_⟩, ⟨i, c, ?_, u_eq, fun j hj => ?_⟩, ?_⟩
    · rw [u_ne (by omega), u_ne (by omega)]; exact k2
    · rw [u_ne (by omega), u_ne (by omega)]; exact k3
    · rw [u_ne (by omega), u_ne (by omega), u_ne (by omega), u_ne (by omega)]; exact k4 j hj
    · rw [u_ne (by omega), u_eq]
    · rw [u_ne (by omega), u_ne (by omega), u_ne (by omega), u_ne (by omega)]; exact l4 j hj
    · rw [u_ne (by omega), u_ne (by omega), u_ne (by omega), u_ne (by omega)]; exact q
  · show ao_u (ao_u D 537 0 0) 537 6 (nI i) 537 0 = 0
    rw [u_ne (by omega), u_eq]
/-- a word comes to the tape, on both sides -/
def TpF (n : Nat) (C D : ao_M) : Prop := C 0 4 = nI n ∧ D 537 6 = nI n ∧ ∀ i, i < 1000 → C 1 i = D 539 i ∧ (-128 ≤ (C 1 i).toInt ∧ (C 1 i).toInt ≤ 127)
def TpC (C C' : ao_M) : Prop := ∀ a i, a ≠ 1 → ¬ (a = 0 ∧ i = 4) → C' a i = C a i
def TpD (D D' : ao_M) : Prop := ∀ a i, a ≠ 539 → ¬ (a = 537 ∧ i = 6) → D' a i = D a i
theorem TpC_tr {C1 C2 C3 : ao_M} (h : TpC C1 C2) (g : TpC C2 C3) : TpC C1 C3 := fun a i p q => by rw [g a i p q, h a i p q]
theorem TpD_tr {D1 D2 D3 : ao_M} (h : TpD D1 D2) (g : TpD D2 D3) : TpD D1 D3 := fun a i p q => by rw [g a i p q, h a i p q]
theorem four_ex (hc : ShA ρ) (hs : ShD σ) (x : Int32) {n : Nat} (hn : n + 4 ≤ 1000) {C D : ao_M} (h : TpF n C D) : hv (fun k => gX10_addToTape k 0 x C ρ) (fun C' => ∃ D', (∀ R : ao_M → Prop, R D' → hv (fun k => gX12_four k 537 x D σ) R) ∧ TpF (n + 4) C' D' ∧ TpC C C' ∧ TpD D D') := by
  obtain ⟨h1, h2, h3⟩ := h
  refine hv_mono (four_pair hc hs x n hn h1 h2 h3 (Q := fun C' D' => TpF (n + 4) C' D' ∧ TpC C C' ∧ TpD D D') (fun C' D' a b c d e => ⟨⟨a, b, c⟩, d, e⟩)) (fun C' q => ?_)
  obtain ⟨D', q1, q2⟩ := hv_ex q
  exact ⟨D', q2, q1⟩
theorem PR_feed (h : PR m B1 B2 E1 E2 C ρ D σ) (hm : m + 1 ≤ 512) (x1 x2 x3 x4 x5 : Int32) : hv (fun n => gL_feed n 0 x1 x2 x3 x4 x5 598 C ρ) (fun y => hv (fun n => gX12_feed n 537 x1 x2 x3 x4 x5 D σ) (fun w => CR m B1 B2 E1 E2 y w.1 w.2 σ)) := by
  obtain ⟨⟨hc, -, -, hs, hO⟩, -, -, -, ⟨-, ⟨k, k1, k2, k3, k4⟩, -⟩, -⟩ := PR_C h
  by_cases hk : k ≤ 980
  · have t0 : TpF k C (ao_u D 537 0 0) := by
      refine ⟨k2, ?_, fun i hi => ?_⟩
      · rw [u_ne (by omega)]; exact k3
      · rw [u_ne (by omega)]; exact k4 i hi
    unfold gL_feed
    refine hv_up (fun _ => fL_feed.eq_2 ..) ?_
    try simp only [↓reduceIte, Nat.reduceEqDiff, Option.bind_some, ao_let, n_ell, hc]
    try simp (disch := first | omega | assumption) only [↓reduceIte, Nat.reduceEqDiff, Option.bind_some, ao_let, t_le, f_le, t_lt, f_lt, f_eq, u_eq, u_n1, u_n2, n_cl, n_lt, n_le, n_eq, n_ltl, n_llt, n_lel, n_lle, n_eql, n_leq, n_add, n_mul, n_sub, n_addl, n_ladd, n_mull, n_lmul, n_subl, Int32.reduceLT, Int32.reduceLE, Int32.reduceAdd, Int32.reduceSub, Int32.reduceMul, Int32.reduceToNatClampNeg, not_false_eq_true, not_true_eq_false, or_false, false_or, or_self, and_self, false_and, true_and, and_false, and_true, true_or, or_true, Nat.reduceAdd, Nat.reduceMul, Nat.reduceLT, Nat.reduceLeDiff, ne_eq, n_ell, hc]
    refine hv_bind (P := fun u => ∃ C5 D5, u = (.inl (nI (k + 20)), C5, ρ) ∧ (∀ R : Int32 × ao_M → Prop, R (nI (k + 20), D5) → hv (fun n => gX12_feed n 537 x1 x2 x3 x4 x5 D σ) R) ∧ TpF (k + 20) C5 D5 ∧ TpC C C5 ∧ TpD (ao_u D 537 0 0) D5) ?_ ?_
    · unfold gX10_feed
      refine hv_up (fun _ => fX10_feed.eq_2 ..) ?_
      try simp only [↓reduceIte, Nat.reduceEqDiff, Option.bind_some, ao_let, n_ell, hc, k2]
      try simp (disch := first | omega | assumption) only [↓reduceIte, Nat.reduceEqDiff, Option.bind_some, ao_let, t_le, f_le, t_lt, f_lt, f_eq, u_eq, u_n1, u_n2, n_cl, n_lt, n_le, n_eq, n_ltl, n_llt, n_lel, n_lle, n_eql, n_leq, n_add, n_mul, n_sub, n_addl, n_ladd, n_mull, n_lmul, n_subl, Int32.reduceLT, Int32.reduceLE, Int32.reduceAdd, Int32.reduceSub, Int32.reduceMul, Int32.reduceToNatClampNeg, not_false_eq_true, not_true_eq_false, or_false, false_or, or_self, and_self, false_and, true_and, and_false, and_true, true_or, or_true, Nat.reduceAdd, Nat.reduceMul, Nat.reduceLT, Nat.reduceLeDiff, ne_eq, n_ell, hc, k2]
      refine hv_bind (four_ex hc hs x1 (by omega) t0) ?_
      rintro C1 ⟨D1, r1, t1, c1, d1⟩
      refine hv_bind (four_ex hc hs x2 (by omega) t1) ?_
      rintro C2 ⟨D2, r2, t2, c2, d2⟩
      refine hv_bind (four_ex hc hs x3 (by omega) t2) ?_
      rintro C3 ⟨D3, r3, t3, c3, d3⟩
      refine hv_bind (four_ex hc hs x4 (by omega) t3) ?_
      rintro C4 ⟨D4, r4, t4, c4, d4⟩
      refine hv_bind (four_ex hc hs x5 (by omega) t4) ?_
      rintro C5 ⟨D5, r5, t5, c5, d5⟩
      refine hv_some ⟨C5, D5, ?_, fun R hR => ?_, t5, TpC_tr (TpC_tr (TpC_tr (TpC_tr c1 c2) c3) c4) c5, TpD_tr (TpD_tr (TpD_tr (TpD_tr d1 d2) d3) d4) d5⟩
      · rw [t5.1]
      · unfold gX12_feed
        refine hv_up (fun _ => fX12_feed.eq_2 ..) ?_
        try simp only [↓reduceIte, Nat.reduceEqDiff, Option.bind_some, ao_let, n_ell, hs, k3]
        try simp (disch := first | omega | assumption) only [↓reduceIte, Nat.reduceEqDiff, Option.bind_some, ao_let, t_le, f_le, t_lt, f_lt, f_eq, u_eq, u_n1, u_n2, n_cl, n_lt, n_le, n_eq, n_ltl, n_llt, n_lel, n_lle, n_eql, n_leq, n_add, n_mul, n_sub, n_addl, n_ladd, n_mull, n_lmul, n_subl, Int32.reduceLT, Int32.reduceLE, Int32.reduceAdd, Int32.reduceSub, Int32.reduceMul, Int32.reduceToNatClampNeg, not_false_eq_true, not_true_eq_false, or_false, false_or, or_self, and_self, false_and, true_and, and_false, and_true, true_or, or_true, Nat.reduceAdd, Nat.reduceMul, Nat.reduceLT, Nat.reduceLeDiff, ne_eq, n_ell, hs, k3]
        refine hv_up (fun _ => fX12_feed.eq_2 ..) ?_
        try simp only [↓reduceIte, Nat.reduceEqDiff, Option.bind_some, ao_let, n_ell, hs, gX12_fails]
        try simp (disch := first | omega | assumption) only [↓reduceIte, Nat.reduceEqDiff, Option.bind_some, ao_let, t_le, f_le, t_lt, f_lt, f_eq, u_eq, u_n1, u_n2, n_cl, n_lt, n_le, n_eq, n_ltl, n_llt, n_lel, n_lle, n_eql, n_leq, n_add, n_mul, n_sub, n_addl, n_ladd, n_mull, n_lmul, n_subl, Int32.reduceLT, Int32.reduceLE, Int32.reduceAdd, Int32.reduceSub, Int32.reduceMul, Int32.reduceToNatClampNeg, not_false_eq_true, not_true_eq_false, or_false, false_or, or_self, and_self, false_and, true_and, and_false, and_true, true_or, or_true, Nat.reduceAdd, Nat.reduceMul, Nat.reduceLT, Nat.reduceLeDiff, ne_eq, n_ell, hs, gX12_fails]
        refine hv_bind (r1 (fun z => z = D1) rfl) ?_
        rintro _ rfl
        refine hv_bind (r2 (fun z => z = D2) rfl) ?_
        rintro _ rfl
        refine hv_bind (r3 (fun z => z = D3) rfl) ?_
        rintro _ rfl
        refine hv_bind (r4 (fun z => z = D4) rfl) ?_
        rintro _ rfl
        refine hv_bind (r5 (fun z => z = D5) rfl) ?_
        rintro _ rfl
        refine hv_some ?_
        rw [t5.2.1]
        exact hR
    rintro _ ⟨C5, D5, rfl, r, t, c, d⟩
    simp only [ao_cs]
    refine hv_up (fun _ => fL_feed.eq_2 ..) ?_
    try simp only [↓reduceIte, Nat.reduceEqDiff, Option.bind_some, ao_let, n_ell, hO]
    try simp (disch := first | omega | assumption) only [↓reduceIte, Nat.reduceEqDiff, Option.bind_some, ao_let, t_le, f_le, t_lt, f_lt, f_eq, u_eq, u_n1, u_n2, n_cl, n_lt, n_le, n_eq, n_ltl, n_llt, n_lel, n_lle, n_eql, n_leq, n_add, n_mul, n_sub, n_addl, n_ladd, n_mull, n_lmul, n_subl, Int32.reduceLT, Int32.reduceLE, Int32.reduceAdd, Int32.reduceSub, Int32.reduceMul, Int32.reduceToNatClampNeg, not_false_eq_true, not_true_eq_false, or_false, false_or, or_self, and_self, false_and, true_and, and_false, and_true, true_or, or_true, Nat.reduceAdd, Nat.reduceMul, Nat.reduceLT, Nat.reduceLeDiff, ne_eq, n_ell, hO]
    refine hv_some (r _ ⟨PR_ext h hm (Or.inl rfl) (fun x j hx => ?_) (fun x j q1 q2 => ?_) ?_, ?_, fun _ => by dsimp only; exact u_eq⟩)
    · show ao_u C5 598 0 (nI (k + 20)) x j = C x j
      rw [u_ne (by omega)]
      exact c x j (by omega) (by omega)
    · show D5 x j = D x j
      rw [d x j (by omega) (by omega), u_ne (by omega)]
    · rintro ⟨i, i1, i2, i3, i4⟩ - q
      have eC : ∀ x j, x ≠ 598 → x ≠ 1 → ¬ (x = 0 ∧ j = 4) → ao_u C5 598 0 (nI (k + 20)) x j = C x j := fun x j q1 q2 q3 => by rw [u_ne (by omega), c x j q2 q3]
      have eD : ∀ x j, x ≠ 539 → ¬ (x = 537 ∧ (j = 0 ∨ j = 6)) → D5 x j = D x j := fun x j q1 q2 => by rw [d x j q1 (by omega), u_ne (by omega)]
      refine ⟨⟨i, i1, ?_, ?_, fun j hj => ?_⟩, ⟨k + 20, by omega, ?_, t.2.1, fun j hj => ?_⟩, ?_⟩
      · show ao_u C5 598 0 (nI (k + 20)) 518 1 = _
        rw [eC _ _ (by omega) (by omega) (by omega)]; exact i2
      · show D5 537 82 = _
        rw [eD _ _ (by omega) (by omega)]; exact i3
      · show ao_u C5 598 0 (nI (k + 20)) 519 j = D5 594 j
        rw [eC _ _ (by omega) (by omega) (by omega), eD _ _ (by omega) (by omega)]; exact i4 j hj
      · show ao_u C5 598 0 (nI (k + 20)) 0 4 = _
        rw [u_ne (by omega)]; exact t.1
      · show ao_u C5 598 0 (nI (k + 20)) 1 j = D5 539 j ∧ (-128 ≤ (ao_u C5 598 0 (nI (k + 20)) 1 j).toInt ∧ (ao_u C5 598 0 (nI (k + 20)) 1 j).toInt ≤ 127)
        rw [u_ne (by omega)]; exact t.2.2 j hj
      · show ao_u C5 598 0 (nI (k + 20)) 0 5 = D5 537 3
        rw [eC _ _ (by omega) (by omega) (by omega), eD _ _ (by omega) (by omega)]; exact q
    · show D5 537 0 = 0
      rw [d _ _ (by omega) (by omega), u_eq]
  · unfold gL_feed
    refine hv_up (fun _ => fL_feed.eq_2 ..) ?_
    try simp only [↓reduceIte, Nat.reduceEqDiff, Option.bind_some, ao_let, n_ell, hc]
    try simp (disch := first | omega | assumption) only [↓reduceIte, Nat.reduceEqDiff, Option.bind_some, ao_let, t_le, f_le, t_lt, f_lt, f_eq, u_eq, u_n1, u_n2, n_cl, n_lt, n_le, n_eq, n_ltl, n_llt, n_lel, n_lle, n_eql, n_leq, n_add, n_mul, n_sub, n_addl, n_ladd, n_mull, n_lmul, n_subl, Int32.reduceLT, Int32.reduceLE, Int32.reduceAdd, Int32.reduceSub, Int32.reduceMul, Int32.reduceToNatClampNeg, not_false_eq_true, not_true_eq_false, or_false, false_or, or_self, and_self, false_and, true_and, and_false, and_true, true_or, or_true, Nat.reduceAdd, Nat.reduceMul, Nat.reduceLT, Nat.reduceLeDiff, ne_eq, n_ell, hc]
    refine hv_bind (P := fun u => u = (.inr "java/lang/IndexOutOfBoundsException", C, ao_th ρ)) ?_ ?_
    · unfold gX10_feed
      refine hv_up (fun _ => fX10_feed.eq_2 ..) ?_
      try simp only [↓reduceIte, Nat.reduceEqDiff, Option.bind_some, ao_let, n_ell, hc, k2]
      try simp (disch := first | omega | assumption) only [↓reduceIte, Nat.reduceEqDiff, Option.bind_some, ao_let, t_le, f_le, t_lt, f_lt, f_eq, u_eq, u_n1, u_n2, n_cl, n_lt, n_le, n_eq, n_ltl, n_llt, n_lel, n_lle, n_eql, n_leq, n_add, n_mul, n_sub, n_addl, n_ladd, n_mull, n_lmul, n_subl, Int32.reduceLT, Int32.reduceLE, Int32.reduceAdd, Int32.reduceSub, Int32.reduceMul, Int32.reduceToNatClampNeg, not_false_eq_true, not_true_eq_false, or_false, false_or, or_self, and_self, false_and, true_and, and_false, and_true, true_or, or_true, Nat.reduceAdd, Nat.reduceMul, Nat.reduceLT, Nat.reduceLeDiff, ne_eq, n_ell, hc, k2]
      exact hv_some rfl
    rintro _ rfl
    simp only [ao_cs, ↓reduceIte]
    refine hv_some ?_
    unfold gX12_feed
    refine hv_up (fun _ => fX12_feed.eq_2 ..) ?_
    try simp only [↓reduceIte, Nat.reduceEqDiff, Option.bind_some, ao_let, n_ell, hs, k3]
    try simp (disch := first | omega | assumption) only [↓reduceIte, Nat.reduceEqDiff, Option.bind_some, ao_let, t_le, f_le, t_lt, f_lt, f_eq, u_eq, u_n1, u_n2, n_cl, n_lt, n_le, n_eq, n_ltl, n_llt, n_lel, n_lle, n_eql, n_leq, n_add, n_mul, n_sub, n_addl, n_ladd, n_mull, n_lmul, n_subl, Int32.reduceLT, Int32.reduceLE, Int32.reduceAdd, Int32.reduceSub, Int32.reduceMul, Int32.reduceToNatClampNeg, not_false_eq_true, not_true_eq_false, or_false, false_or, or_self, and_self, false_and, true_and, and_false, and_true, true_or, or_true, Nat.reduceAdd, Nat.reduceMul, Nat.reduceLT, Nat.reduceLeDiff, ne_eq, n_ell, hs, k3]
    refine hv_up (fun _ => fX12_feed.eq_2 ..) ?_
    try simp only [↓reduceIte, Nat.reduceEqDiff, Option.bind_some, ao_let, n_ell, hs, gX12_fails]
    try simp (disch := first | omega | assumption) only [↓reduceIte, Nat.reduceEqDiff, Option.bind_some, ao_let, t_le, f_le, t_lt, f_lt, f_eq, u_eq, u_n1, u_n2, n_cl, n_lt, n_le, n_eq, n_ltl, n_llt, n_lel, n_lle, n_eql, n_leq, n_add, n_mul, n_sub, n_addl, n_ladd, n_mull, n_lmul, n_subl, Int32.reduceLT, Int32.reduceLE, Int32.reduceAdd, Int32.reduceSub, Int32.reduceMul, Int32.reduceToNatClampNeg, not_false_eq_true, not_true_eq_false, or_false, false_or, or_self, and_self, false_and, true_and, and_false, and_true, true_or, or_true, Nat.reduceAdd, Nat.reduceMul, Nat.reduceLT, Nat.reduceLeDiff, ne_eq, n_ell, hs, gX12_fails]
    exact hv_some (PR_tell h hm ⟨rfl, Or.inr ⟨(show (1 : Int32) ≠ 0 by decide), rfl, rfl⟩⟩)
theorem PR_place (h : PR m B1 B2 E1 E2 C ρ D σ) (hm : m + 1 ≤ 512) : gX10_place 0 C ρ = some (C 0 5, C) ∧ gX12_place 537 D σ = some (C 0 5, ao_u D 537 0 0) ∧ PR (m + 1) (B1 + 5) (B2 + 3100) E1 E2 C ρ (ao_u D 537 0 0) σ := by
  obtain ⟨⟨hc, -, -, hs, hO⟩, -, -, -, ⟨-, -, h3⟩, -⟩ := PR_C h
  refine ⟨?_, ?_, PR_ext h hm (Or.inl rfl) (fun _ _ _ => rfl) (fun x j q1 q2 => by rw [u_ne (by omega)]) ?_⟩
  · unfold gX10_place
    simp only [hc, ↓reduceIte]
  · unfold gX12_place
    simp only [hs, ↓reduceIte, ao_let]
    rw [u_ne (by omega), h3]
  · rintro ⟨k, k1, k2, k3, k4⟩ ⟨l, l1, l2, l3, l4⟩ q
    refine ⟨⟨k, k1, k2, ?_, fun j hj => ?_⟩, ⟨l, l1, l2, ?_, fun j hj => ?_⟩, ?_⟩
    · rw [u_ne (by omega)]; exact k3
    · rw [u_ne (by omega)]; exact k4 j hj
    · rw [u_ne (by omega)]; exact l3
    · rw [u_ne (by omega)]; exact l4 j hj
    · rw [u_ne (by omega)]; exact q
end Cc0
