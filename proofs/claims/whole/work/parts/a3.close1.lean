set_option linter.unusedSimpArgs false
set_option linter.unusedVariables false
/-! ===== a block ends ===== -/
/-- places, when a block ends: from the reference's 127 on -/
theorem fin_mid {C D : ao_M} {ρ σ : ao_H} {kp t : Nat} {x2 x3 : Int32} (f1 : ShA ρ) (f2 : ShB ρ) (f4 : ShD σ) (ht : t < 6) (hkp : kp ≤ 28000) (r : Rpl kp C ρ D σ) (hw : C 12 5 = D 537 27) (hlz : ¬ (D 537 27 = 3 ∨ D 537 27 = 4) → ∀ p, p < 26 → C 16 p = -1) (h0 : C (92 + 71 * t) 0 = nI t) (hW : Wr C D t 0) :
    ∃ C2 ρ2 D2 σ2 kp' x3', adv (fun n => gX2_finish n 12 (92 + 71 * t) C ρ) (fun n => fX2_finish n 83 12 (92 + 71 * t) (92 + 71 * t + 8) 0 C2 ρ2) ∧ adv (fun n => fX12_done n 127 537 (nI t) x2 x3 0 0 0 0 D σ) (fun n => fX12_done n 215 537 (nI t) x2 x3' 0 0 0 0 D2 σ2) ∧ Rpl kp' C2 ρ2 D2 σ2 ∧ FC C ρ C2 ρ2 ∧ FD D σ D2 σ2 ∧ (∀ p, p < 26 → C2 16 p ≠ nI t ∧ (C2 16 p = C 16 p ∨ C2 16 p = -1)) ∧ ((D 537 27 = 3 ∨ D 537 27 = 4) → kp' + cntK C2 = kp + cntK C) ∧ (¬ (D 537 27 = 3 ∨ D 537 27 = 4) → kp' = kp + popc (C (92 + 71 * t + 8) 6)) ∧
      (∀ p, p < 26 → bt (C (92 + 71 * t + 8) 6) p = true → C2 14 p = if D 537 27 = 3 ∨ D 537 27 = 4 then D 542 p else D 582 (t * 12 * 26 + p)) := by
  have hR := RnS_of f2 ht
  have hl := LvS_of f2 ht (show 0 < 10 by omega)
  rw [Nat.mul_zero, Nat.add_zero] at hl
  have hn1 := n_neg (n := t) (by omega)
  have hW1 := hW.1
  have hW2 := hW.2
  rw [Nat.mul_zero, Nat.add_zero] at hW1
  simp only [Nat.mul_zero, Nat.add_zero] at hW2
  obtain ⟨⟨z, ez, z9⟩, ⟨z', ez', z9'⟩⟩ := Rpl_z r
  have hfl : ∀ p, p < 26 → D 578 (t * 12 * 26 + p) = 0 ∨ D 578 (t * 12 * 26 + p) = 1 := fun p hp => by
    rw [(hW2 p hp).1]
    by_cases q : bt (C (92 + 71 * t + 8) 6) p = true
    · rw [if_pos q]; exact Or.inr rfl
    · rw [if_neg q]; exact Or.inl rfl
  have hm0 : C (92 + 71 * t + 8) 6 = 0 ↔ ∀ p, p < 26 → D 578 (t * 12 * 26 + p) = 0 := by
    constructor
    · intro e p hp
      rw [(hW2 p hp).1, e, bt_0]
      simp
    · intro h
      refine bt_all _ (fun p hp => ?_) hW1
      have := (hW2 p hp).1
      rw [h p hp] at this
      by_cases q : bt (C (92 + 71 * t + 8) 6) p = true
      · rw [if_pos q] at this
        exact absurd this (by decide)
      · simpa using q
  have cpre : ∀ {Q : ao_S → Prop}, hv (fun n => (gX2_writesAtOnce n 12 C ρ).bind fun p4 => if p4.1 = 0 then (if p4.2 (92 + 71 * t + 8) 6 = 0 then fX2_finish n 83 12 (92 + 71 * t) (92 + 71 * t + 8) 0 p4.2 ρ else fX2_finish n 49 12 (92 + 71 * t) (92 + 71 * t + 8) 0 (ao_u p4.2 13 4 (p4.2 13 4 + 1)) ρ) else (gX5_release n 13 (p4.2 (92 + 71 * t) 0) p4.2 ρ).bind fun p13 => fX2_finish n 24 12 (92 + 71 * t) (92 + 71 * t + 8) 0 p13.1 p13.2) Q → hv (fun n => gX2_finish n 12 (92 + 71 * t) C ρ) Q := by
    intro Q hQ
    unfold gX2_finish
    refine hv_up (fun _ => fX2_finish.eq_2 ..) ?_
    simp only [↓reduceIte, hR]
    refine hv_bind (P := fun y => y = (92 + 71 * t + 8 + 6 * 0, C)) (c_level (j := 0) f2 ht (by omega) C rfl) ?_
    rintro _ rfl
    simp only [Nat.mul_zero, Nat.add_zero, f1, hl, ↓reduceIte, Option.bind_some, ao_let]
    exact hQ
  by_cases hE : D 537 27 = 3 ∨ D 537 27 = 4
  · have hEC : C 12 5 = 3 ∨ C 12 5 = 4 := by rw [hw]; exact hE
    obtain ⟨Nc, ⟨C2, ρ2⟩, ec, Nd, ⟨D2, σ2⟩, ed, g1, g2, g3, g4⟩ := rel_pair ht f1 f4 (by omega) r hlz
    dsimp only at g1 g2 g3 g4
    refine ⟨C2, ρ2, D2, σ2, _, x3, fun Q hQ => cpre ?_, fun Q hQ => ?_, g1, g2, g3, fun p hp => ?_, fun _ => ?_, fun q => absurd hE q, fun p hp _ => ?_⟩
    · refine hv_bind (P := fun y => y = (1, C)) (cv_eager f1 C (by rw [if_pos hEC])) ?_
      rintro _ rfl
      simp only [show ((1 : Int32) = 0) = False from by decide, ↓reduceIte, h0]
      refine hv_bind (P := fun y => y = (C2, ρ2)) ⟨Nc, _, ec, rfl⟩ ?_
      rintro _ rfl
      refine hv_up (fun _ => fX2_finish.eq_2 ..) ?_
      try simp only [↓reduceIte, Nat.reduceEqDiff, Option.bind_some, ao_let, n_ell]
      try simp (disch := first | omega | assumption) only [↓reduceIte, Nat.reduceEqDiff, Option.bind_some, ao_let, t_le, f_le, t_lt, f_lt, f_eq, u_eq, u_n1, u_n2, n_cl, n_lt, n_le, n_eq, n_ltl, n_llt, n_lel, n_lle, n_eql, n_leq, n_add, n_mul, n_sub, n_addl, n_ladd, n_mull, n_lmul, n_subl, Int32.reduceLT, Int32.reduceLE, Int32.reduceAdd, Int32.reduceSub, Int32.reduceMul, Int32.reduceToNatClampNeg, not_false_eq_true, not_true_eq_false, or_false, false_or, or_self, and_self, false_and, true_and, and_false, and_true, true_or, or_true, Nat.reduceAdd, Nat.reduceMul, Nat.reduceLT, Nat.reduceLeDiff, ne_eq, n_ell]
      exact hQ
    · refine hv_up (fun _ => fX12_done.eq_2 ..) ?_
      simp only [↓reduceIte, Nat.reduceEqDiff, f4]
      refine hv_bind (P := fun y => y = (1, D)) (dv_eagerT f4 D hE rfl) ?_
      rintro _ rfl
      simp only [show ((1 : Int32) = 0) = False from by decide, ↓reduceIte]
      refine hv_bind (P := fun y => y = (D2, σ2)) ⟨Nd, _, ed, rfl⟩ ?_
      rintro _ rfl
      refine hv_up (fun _ => fX12_done.eq_2 ..) ?_
      try simp only [↓reduceIte, Nat.reduceEqDiff, Option.bind_some, ao_let, n_ell]
      try simp (disch := first | omega | assumption) only [↓reduceIte, Nat.reduceEqDiff, Option.bind_some, ao_let, t_le, f_le, t_lt, f_lt, f_eq, u_eq, u_n1, u_n2, n_cl, n_lt, n_le, n_eq, n_ltl, n_llt, n_lel, n_lle, n_eql, n_leq, n_add, n_mul, n_sub, n_addl, n_ladd, n_mull, n_lmul, n_subl, Int32.reduceLT, Int32.reduceLE, Int32.reduceAdd, Int32.reduceSub, Int32.reduceMul, Int32.reduceToNatClampNeg, not_false_eq_true, not_true_eq_false, or_false, false_or, or_self, and_self, false_and, true_and, and_false, and_true, true_or, or_true, Nat.reduceAdd, Nat.reduceMul, Nat.reduceLT, Nat.reduceLeDiff, ne_eq, n_ell]
      exact hQ
    · have := (g4 p hp).2
      by_cases e : C 16 p = nI t
      · rw [if_pos ⟨by omega, e⟩] at this
        rw [this]
        refine ⟨fun q => ?_, Or.inr rfl⟩
        rw [← q] at hn1
        exact absurd rfl (by rw [hn1]; exact id)
      · rw [if_neg (fun x => e x.2)] at this
        rw [this]
        exact ⟨e, Or.inl rfl⟩
    · have := cntK_t (C := C) (C' := C2) (fun p hp => by
        rw [(g4 p hp).2]
        by_cases e : C 16 p = nI t
        · rw [if_pos ⟨by omega, e⟩, if_pos e]
        · rw [if_neg (fun x => e x.2), if_neg e]) ht
      omega
    · rw [if_pos hE, (g4 p hp).1]
      obtain ⟨f, g, hh, pc, pd, ch, ev, ec⟩ := r
      exact (ev p hp).1
  · have hEC : ¬ (C 12 5 = 3 ∨ C 12 5 = 4) := by rw [hw]; exact hE
    have h16 : ∀ p, p < 26 → C 16 p ≠ nI t := fun p hp q => by
      rw [hlz hE p hp] at q
      rw [← q] at hn1
      exact absurd rfl (by rw [hn1]; exact id)
    by_cases hz : C (92 + 71 * t + 8) 6 = 0
    · refine ⟨C, ρ, D, σ, kp, x3, fun Q hQ => cpre ?_, fun Q hQ => ?_, r, ⟨HxC_refl ez rfl, fun _ _ _ _ _ => rfl⟩, ⟨HxD_refl ez', fun _ _ _ _ _ _ => rfl⟩, fun p hp => ⟨h16 p hp, Or.inl rfl⟩, fun q => absurd q hE, fun _ => ?_, fun p hp q => ?_⟩
      · refine hv_bind (P := fun y => y = (0, C)) (cv_eager f1 C (by rw [if_neg hEC])) ?_
        rintro _ rfl
        simp only [↓reduceIte, hz]
        exact hQ
      · refine hv_up (fun _ => fX12_done.eq_2 ..) ?_
        simp only [↓reduceIte, Nat.reduceEqDiff, f4]
        refine hv_bind (P := fun y => y = (0, D)) (dv_eagerF f4 D hE rfl) ?_
        rintro _ rfl
        simp only [↓reduceIte]
        refine hv_bind (P := fun y => y = (0, D)) (d_hasw f4 ht hfl (fun _ => rfl) (fun q => absurd (hm0.mp hz) q)) ?_
        rintro _ rfl
        simp only [↓reduceIte]
        exact hQ
      · rw [hz]
        have : popc 0 = 0 := by decide
        rw [this, Nat.add_zero]
      · rw [hz, bt_0] at q
        exact absurd q (by decide)
    · have hck : C 13 4 = D 537 26 := by
        obtain ⟨f, g, hh, pc, pd, ch, ev, ec⟩ := r
        exact ec
      have r1 : Rpl kp (ao_u C 13 4 (C 13 4 + 1)) ρ (ao_u D 537 26 (D 537 26 + 1)) σ := Rpl_clk r (fun x i _ h => u_ne (by omega)) (fun x i h => u_ne (by omega)) (by rw [u_eq, u_eq, hck])
      obtain ⟨C2, ρ2, D2, σ2, x3', a1, a2, a3, a4, a5, a6⟩ := chg_P (t := t) (x2 := x2) (mk := C (92 + 71 * t + 8) 6) (wv := fun p => D 582 (t * 12 * 26 + p)) ht 26 0 (ao_u C 13 4 (C 13 4 + 1)) (ao_u D 537 26 (D 537 26 + 1)) ρ σ kp rfl f1 f2 f4 (by omega) r1 (u_n1 (by omega)) (fun q hq hb => by rw [u_n1 (by omega)]; exact (hW2 q hq).2 hb) (fun q hq => by rw [u_n1 (by omega), u_n1 (by omega)]; exact ⟨(hW2 q hq).1, fun _ => rfl⟩)
      refine ⟨C2, ρ2, D2, σ2, _, x3', fun Q hQ => cpre ?_, fun Q hQ => ?_, a3, ⟨?_, fun x i h1 h2 h3 => by rw [a4.2 x i h1 h2 h3, u_n1 (by omega)]⟩, ⟨a5.1, fun x i h1 h2 h3 h4 => by rw [a5.2 x i h1 h2 h3 h4, u_ne (by omega)]⟩, fun p hp => ?_, fun q => absurd q hE, fun _ => ?_, fun p hp q => ?_⟩
      · refine hv_bind (P := fun y => y = (0, C)) (cv_eager f1 C (by rw [if_neg hEC])) ?_
        rintro _ rfl
        simp only [↓reduceIte, hz]
        exact a1 Q hQ
      · have := a2 Q hQ
        clear a1 a2
        refine hv_up (fun _ => fX12_done.eq_2 ..) ?_
        simp only [↓reduceIte, Nat.reduceEqDiff, f4]
        refine hv_bind (P := fun y => y = (0, D)) (dv_eagerF f4 D hE rfl) ?_
        rintro _ rfl
        simp only [↓reduceIte]
        refine hv_bind (P := fun y => y = (1, D)) (d_hasw f4 ht hfl (fun q => absurd (hm0.mpr q) hz) (fun _ => rfl)) ?_
        rintro _ rfl
        simp only [show ((1 : Int32) = 0) = False from by decide, ↓reduceIte, ao_let]
        exact this
      · obtain ⟨y, y', v1, v2, v3, v4, v5, v6, v8, v9⟩ := a4.1
        have er0 : rmC (ao_u C 13 4 (C 13 4 + 1)) = rmC C := by
          unfold rmC
          rw [u_n2 (by omega)]
        rw [er0] at v8 v9
        exact ⟨y, y', v1, v2, v3, v4, v5, v6, v8, v9⟩
      · have := (a6 p hp).2
        rw [u_n1 (by omega)] at this
        rw [this]
        exact ⟨h16 p hp, Or.inl rfl⟩
      · unfold popc
        rw [List.range_eq_range']
      · rw [(a6 p hp).1, if_pos ⟨by omega, q⟩, if_neg hE]
/-- what is left when a block ended -/
def FinP (C D : ao_M) (ρ σ : ao_H) (kp t : Nat) (X Y : Int32) (Cf : ao_M) (ρf : ao_H) (Df : ao_M) (σf : ao_H) (kp' : Nat) : Prop := HxC C ρ Cf ρf ∧ HxD σ σf ∧
  (∀ x i, (x < 13 ∨ 18 < x) → ¬ (x = 92 + 71 * t ∧ (i = 2 ∨ i = 8 ∨ i = 13 ∨ i = 18)) → ¬ (22 ≤ x ∧ x ≤ 90) → ¬ PAc ρ x → (∀ z, ρ.2.2.2.1 = some z → x < z) → Cf x i = C x i) ∧ (Cf (92 + 71 * t) 2 = 1 ∧ Cf (92 + 71 * t) 8 = 0 ∧ Cf (92 + 71 * t) 18 = C (92 + 71 * t) 18 + 1) ∧
  (∀ x i, ¬ (x = 537 ∧ (i = 25 ∨ i = 26 ∨ i = 68 ∨ i = 76)) → (x < 542 ∨ 546 < x) → ¬ (585 ≤ x ∧ x ≤ 593) → ¬ (i = t ∧ (x = 551 ∨ x = 552 ∨ x = 556 ∨ x = 557 ∨ x = 562)) → ¬ ((x = 577 ∨ x = 578) ∧ t * 12 * 26 ≤ i ∧ i < t * 12 * 26 + 26) → ¬ (x = 584 ∧ i = t * 12) → ¬ PAd σ x → (∀ z, σ.2.2.2.1 = some z → x < z) → Df x i = D x i) ∧ (Df 551 t = 1 ∧ Df 556 t = 0 ∧ Df 562 t = D 562 t + 1 ∧ Df 552 t = Y ∧ Df 557 t = X) ∧
  Rpl kp' Cf ρf Df σf ∧ Rsd Cf Df ∧ Rrc Cf Df ∧ (∀ p, p < 26 → Cf 16 p ≠ nI t ∧ (Cf 16 p = C 16 p ∨ Cf 16 p = -1)) ∧ ((D 537 27 = 3 ∨ D 537 27 = 4) → kp' + cntK Cf = kp + cntK C) ∧ (¬ (D 537 27 = 3 ∨ D 537 27 = 4) → kp' = kp + popc (C (92 + 71 * t + 8) 6))
set_option maxHeartbeats 2000000 in
theorem fin_P {C D : ao_M} {ρ σ : ao_H} {kp rc nw bw br t len kd a1 a2 a3 : Nat} {φ : Nat → Nat} {N : Ns} {H K : Nat → Nat} {l : List (Nat × Nat)} (X Y : Int32) (hF : FullP (fun u => u ≠ t) C ρ D σ kp rc nw bw br) (ht : t < 6) (hM : Md C ρ D rc t len kd a1 a2 a3 φ N H K l) (hnl : nl l = 1) :
    ∃ Cf ρf Df σf kp', hv (fun n => gX2_finish n 12 (92 + 71 * t) C ρ) (fun y => y = (Cf, ρf)) ∧ hv (fun n => gX12_done n 537 (nI t) (ao_u (ao_u D 557 t X) 552 t Y) σ) (fun y => y = (Df, σf)) ∧ FinP C D ρ σ kp t X Y Cf ρf Df σf kp' := by
  obtain ⟨⟨f1, f2, f3, f4⟩, f5, ⟨f6, f7, fX⟩, f8, f9, f10, -, -, -, ⟨fe1, fe2, -⟩, fbw, -⟩ := hF
  obtain ⟨m1, m2, ⟨g1, g2, g3, g4, g5, g6, g7, g8, g9⟩, m4, m5, -, mI⟩ := hM
  rw [hnl] at mI
  obtain ⟨I8, IL, hl, h1, h2, h3⟩ := mI
  obtain ⟨-, -, hW, ⟨ps, vs, ws, rC, o, d1, d2, d3⟩⟩ := IL 0 (by omega)
  obtain ⟨v1, v2, v3, v4⟩ := h1 0 (by omega)
  have hcat : cat hl 1 = hl 0 := by simp [cat]
  rw [hcat] at h2 h3
  rw [Nat.min_eq_right v1] at h2
  rw [Nat.mul_zero, Nat.add_zero] at rC
  simp only [Nat.add_zero] at d1 d2 v2 v4
  obtain ⟨k, k1, k2, k3, -⟩ := id f10
  obtain ⟨-, -, -, -, x6, x65, -⟩ := fX
  have hkp : kp ≤ 28000 := by
    by_cases q : D 537 27 = 3 ∨ D 537 27 = 4
    · have := fe1 q; omega
    · have := fe2 q; omega
  clear m1 m2 m4 m5 IL fe1 fe2
  have hf : ∀ q, q < 26 → (D 577 (t * 12 * 26 + q) = 0 ∨ D 577 (t * 12 * 26 + q) = 1) ∧ (D 578 (t * 12 * 26 + q) = 0 ∨ D 578 (t * 12 * 26 + q) = 1) := fun q hq => by
    have hW2 := (hW.2 q hq).1
    rw [Nat.add_zero] at hW2
    rw [d1 q hq, hW2]
    constructor
    · by_cases e : q ∈ ps
      · rw [if_pos e]; exact Or.inr rfl
      · rw [if_neg e]; exact Or.inl rfl
    · by_cases e : bt (C (92 + 71 * t + 8 + 6 * 0) 6) q = true
      · rw [if_pos e]; exact Or.inr rfl
      · rw [if_neg e]; exact Or.inl rfl
  have du : ∀ x i, ¬ (i = t ∧ (x = 552 ∨ x = 557)) → ao_u (ao_u D 557 t X) 552 t Y x i = D x i := fun x i q => by rw [u_ne (by omega), u_ne (by omega)]
  have du52 : ao_u (ao_u D 557 t X) 552 t Y 552 t = Y := u_eq
  have du57 : ao_u (ao_u D 557 t X) 552 t Y 557 t = X := by rw [u_n1 (by omega), u_eq]
  generalize ao_u (ao_u D 557 t X) 552 t Y = D0 at du du52 du57 ⊢
  obtain ⟨D1, y2, y3, w1, w2, w3, w4⟩ := d_rec (D := D0) f4 ht k1 (by rw [du _ _ (by omega)]; exact k3) (fun q hq => by rw [du _ _ (by omega), du _ _ (by omega)]; exact hf q hq)
  have hl0 := LvS_of f2 ht (show 0 < 10 by omega)
  have dd : ∀ x i, ¬ (i = t ∧ (x = 552 ∨ x = 557)) → ¬ (x = 537 ∧ i = 76) → ¬ (587 ≤ x ∧ x ≤ 593) → D1 x i = D x i := fun x i q1 q2 q3 => (w2 x i q2 q3).trans (du x i q1)
  have hW1 : Wr C D1 t 0 := ⟨hW.1, fun p hp => by rw [dd 578 _ (by omega) (by omega) (by omega), dd 582 _ (by omega) (by omega) (by omega)]; exact hW.2 p hp⟩
  have r1 : Rpl kp C ρ D1 σ := Rpl_cell (k := 0) f5 (fun _ _ _ => rfl) (fun x i hx => dd x i (by omega) (by omega) (by omega))
  have e27 : D1 537 27 = D 537 27 := dd _ _ (by omega) (by omega) (by omega)
  obtain ⟨C2, ρ2, D2, σ2, kp', x3', p1, p2, p3, p4, p5, p6, p7, p8, p9⟩ := fin_mid (x2 := y2) (x3 := y3) f1 f2 f4 ht hkp r1 (by rw [e27]; exact f6) (by rw [e27]; exact f8) g3 hW1
  rw [e27] at p7 p8 p9
  have zc := sh_zc f5
  have zd := sh_zd f5
  have npc : ∀ x, (x < 19 ∨ 21 < x) ∧ x < 599 → ¬ PAc ρ x := fun x hx => Rpl_nc f5 hx
  have npd : ∀ x, (x < 547 ∨ 549 < x) ∧ x < 599 → ¬ PAd σ x := fun x hx => Rpl_nd f5 hx
  have cl : ∀ x i, (x < 13 ∨ 22 ≤ x ∧ x < 599) → C2 x i = C x i := fun x i h1 => p4.2 x i (by omega) (npc x (by omega)) (fun z hz => by have := zc z hz; omega)
  have dl : ∀ x i, x < 599 → ¬ (x = 537 ∧ (i = 25 ∨ i = 26)) → (x < 542 ∨ 549 < x) → D2 x i = D1 x i := fun x i h0 h1 h2 => p5.2 x i h1 (by omega) (npd x (by omega)) (fun z hz => by have := zd z hz; omega)
  have f12 := HxC_shA p4.1 zc f1
  have f22 := HxC_shB p4.1 zc f2
  have f32 := HxC_shG p4.1 zc f3
  have f42 := HxD_sh p5.1 zd f4
  have hR2 := RnS_of f22 ht
  -- the record
  have rC2 : RdC C2 (92 + 71 * t + 8) ps vs ws := RdC_mv rC (cl _ _ (by omega)) (cl _ _ (by omega)) (fun j => ⟨cl _ _ (by omega), cl _ _ (by omega), cl _ _ (by omega)⟩)
  obtain ⟨N3, C3, e3, hB⟩ : hv (fun n => gX2_writeRecord n 12 (92 + 71 * t) (92 + 71 * t + 8) C2 ρ2) (fun C3 => RcB C2 C3 (ps.map (fun p => (p, vs p))) (((List.range 26).filter (fun p => bt (C2 (92 + 71 * t + 8) 6) p)).map (fun p => (p, C2 14 p))) (C2 (92 + 71 * t) 0) (C2 (92 + 71 * t) 16) (nI (nw / 2))) := c_wrec (k := k) f12 f22 f32 ht k1 (by rw [cl _ _ (by omega)]; exact k2) rC2 (by rw [cl _ _ (by omega)]; exact x6) (fun C3 h => h)
  have c3 : ∀ x i, x < 25 ∨ 90 < x → C3 x i = C2 x i := by
    obtain ⟨-, -, -, c0, -⟩ := hB
    exact c0
  -- what was said
  have d4 : ∀ x i, (550 ≤ x ∧ x ≤ 584 ∨ x = 537 ∧ i = 68 ∨ x = 585 ∨ x = 586) → ¬ (i = t ∧ (x = 552 ∨ x = 557)) → D2 x i = D x i := fun x i q1 q2 => by rw [dl x i (by omega) (by omega) (by omega), dd x i q2 (by omega) (by omega)]
  obtain ⟨C4, D4, s1, s2, s3, s4, s5⟩ := sy_P (hl := hl 0) (lv := 92 + 71 * t + 8) (x2 := y2) f12 f22 f42 ht rfl v1 (hl 0).length 0 C3 D2 (by omega) (Rsd_fr f9 (fun x i q1 q2 => by rw [c3 _ _ (by omega), cl _ _ (by omega)]) (d4 _ _ (by omega) (by omega)) (fun x i q => d4 x i (by omega) (by omega))) (by rw [c3 _ _ (by omega), cl _ _ (by omega)]; exact g3) (by rw [c3 _ _ (by omega), cl _ _ (by omega)]; exact h2) (fun j hj => by rw [c3 _ _ (by omega), cl _ _ (by omega)]; exact h3 j hj (by omega)) (by rw [d4 _ _ (by omega) (by omega)]; exact v2) (fun j hj => by rw [d4 _ _ (by omega) (by omega)]; exact v4 j hj)
  -- the two ends
  have eC : hv (fun n => gX2_finish n 12 (92 + 71 * t) C ρ) (fun y => y = (ao_u (ao_u (ao_u (ao_u C4 (92 + 71 * t) 13 0) (92 + 71 * t) 18 (C4 (92 + 71 * t) 18 + 1)) (92 + 71 * t) 8 0) (92 + 71 * t) 2 1, ρ2)) := by
    refine p1 _ ?_
    refine hv_up (fun _ => fX2_finish.eq_2 ..) ?_
    simp only [↓reduceIte, Nat.reduceEqDiff, f12]
    refine hv_bind (P := fun y => y = C3) ⟨N3, _, e3, rfl⟩ ?_
    rintro _ rfl
    refine s1 _ ?_
    refine hv_up (fun _ => fX2_finish.eq_2 ..) ?_
    try simp only [↓reduceIte, Nat.reduceEqDiff, Option.bind_some, ao_let, n_ell, hR2]
    try simp (disch := first | omega | assumption) only [↓reduceIte, Nat.reduceEqDiff, Option.bind_some, ao_let, t_le, f_le, t_lt, f_lt, f_eq, u_eq, u_n1, u_n2, n_cl, n_lt, n_le, n_eq, n_ltl, n_llt, n_lel, n_lle, n_eql, n_leq, n_add, n_mul, n_sub, n_addl, n_ladd, n_mull, n_lmul, n_subl, Int32.reduceLT, Int32.reduceLE, Int32.reduceAdd, Int32.reduceSub, Int32.reduceMul, Int32.reduceToNatClampNeg, not_false_eq_true, not_true_eq_false, or_false, false_or, or_self, and_self, false_and, true_and, and_false, and_true, true_or, or_true, Nat.reduceAdd, Nat.reduceMul, Nat.reduceLT, Nat.reduceLeDiff, ne_eq, n_ell, hR2]
    exact hv_some rfl
  have d84 : D4 584 (t * 12) = nI (hl 0).length := by rw [s5 _ _ (by omega) (by omega) (by omega), d4 _ _ (by omega) (by omega)]; exact v2
  have eD : hv (fun n => gX12_done n 537 (nI t) D0 σ) (fun y => y = (ao_u (ao_u (dClear t 0 (ao_u D4 556 t 0)) 562 t (D4 562 t + 1)) 551 t 1, σ2)) := by
    refine w1 _ (p2 _ ?_)
    refine hv_up (fun _ => fX12_done.eq_2 ..) ?_
    try simp only [↓reduceIte, Nat.reduceEqDiff, Option.bind_some, ao_let, n_ell]
    try simp (disch := first | omega | assumption) only [↓reduceIte, Nat.reduceEqDiff, Option.bind_some, ao_let, t_le, f_le, t_lt, f_lt, f_eq, u_eq, u_n1, u_n2, n_cl, n_lt, n_le, n_eq, n_ltl, n_llt, n_lel, n_lle, n_eql, n_leq, n_add, n_mul, n_sub, n_addl, n_ladd, n_mull, n_lmul, n_subl, Int32.reduceLT, Int32.reduceLE, Int32.reduceAdd, Int32.reduceSub, Int32.reduceMul, Int32.reduceToNatClampNeg, not_false_eq_true, not_true_eq_false, or_false, false_or, or_self, and_self, false_and, true_and, and_false, and_true, true_or, or_true, Nat.reduceAdd, Nat.reduceMul, Nat.reduceLT, Nat.reduceLeDiff, ne_eq, n_ell]
    refine s2 _ ?_
    refine hv_up (fun _ => fX12_done.eq_2 ..) ?_
    try simp only [↓reduceIte, Nat.reduceEqDiff, Option.bind_some, ao_let, n_ell, f42, gX12_level, d84, Nat.add_zero]
    try simp (disch := first | omega | assumption) only [↓reduceIte, Nat.reduceEqDiff, Option.bind_some, ao_let, t_le, f_le, t_lt, f_lt, f_eq, u_eq, u_n1, u_n2, n_cl, n_lt, n_le, n_eq, n_ltl, n_llt, n_lel, n_lle, n_eql, n_leq, n_add, n_mul, n_sub, n_addl, n_ladd, n_mull, n_lmul, n_subl, Int32.reduceLT, Int32.reduceLE, Int32.reduceAdd, Int32.reduceSub, Int32.reduceMul, Int32.reduceToNatClampNeg, not_false_eq_true, not_true_eq_false, or_false, false_or, or_self, and_self, false_and, true_and, and_false, and_true, true_or, or_true, Nat.reduceAdd, Nat.reduceMul, Nat.reduceLT, Nat.reduceLeDiff, ne_eq, n_ell, f42, gX12_level, d84, Nat.add_zero]
    refine hv_bind (P := fun y => y = dClear t 0 (ao_u D4 556 t 0)) (dv_clear (l := 0) f42 ht (by omega) _ rfl) ?_
    rintro _ rfl
    have e62 : dClear t 0 (ao_u D4 556 t 0) 562 t = D4 562 t := by
      unfold dClear
      rw [if_neg (by omega), if_neg (by omega), u_n1 (by omega)]
    try simp only [↓reduceIte, Nat.reduceEqDiff, Option.bind_some, ao_let, n_ell, f42, e62]
    try simp (disch := first | omega | assumption) only [↓reduceIte, Nat.reduceEqDiff, Option.bind_some, ao_let, t_le, f_le, t_lt, f_lt, f_eq, u_eq, u_n1, u_n2, n_cl, n_lt, n_le, n_eq, n_ltl, n_llt, n_lel, n_lle, n_eql, n_leq, n_add, n_mul, n_sub, n_addl, n_ladd, n_mull, n_lmul, n_subl, Int32.reduceLT, Int32.reduceLE, Int32.reduceAdd, Int32.reduceSub, Int32.reduceMul, Int32.reduceToNatClampNeg, not_false_eq_true, not_true_eq_false, or_false, false_or, or_self, and_self, false_and, true_and, and_false, and_true, true_or, or_true, Nat.reduceAdd, Nat.reduceMul, Nat.reduceLT, Nat.reduceLeDiff, ne_eq, n_ell, f42, e62]
    exact hv_some rfl
  refine ⟨_, _, _, _, kp', eC, eD, ?_⟩
  clear eC eD s1 s2 p1 p2 w1 e3 f12 f22 f32 f42 hR2 f1 f2 f3 f4 hl0
  have cF : ∀ x i, ¬ (x = 92 + 71 * t ∧ (i = 2 ∨ i = 8 ∨ i = 13 ∨ i = 18)) → ¬ (22 ≤ x ∧ x ≤ 90) → ao_u (ao_u (ao_u (ao_u C4 (92 + 71 * t) 13 0) (92 + 71 * t) 18 (C4 (92 + 71 * t) 18 + 1)) (92 + 71 * t) 8 0) (92 + 71 * t) 2 1 x i = C2 x i := fun x i q1 q2 => by
    rw [u_ne (by omega), u_ne (by omega), u_ne (by omega), u_ne (by omega), s4 x i (by omega), c3 x i (by omega)]
  have dF : ∀ x i, ¬ (x = 537 ∧ i = 68) → x ≠ 585 → x ≠ 586 → ¬ (i = t ∧ (x = 551 ∨ x = 556 ∨ x = 562)) → ¬ ((x = 577 ∨ x = 578) ∧ t * 12 * 26 ≤ i ∧ i < t * 12 * 26 + 26) → ¬ (x = 584 ∧ i = t * 12) → ao_u (ao_u (dClear t 0 (ao_u D4 556 t 0)) 562 t (D4 562 t + 1)) 551 t 1 x i = D2 x i := fun x i q1 q2 q3 q4 q5 q6 => by
    rw [u_ne (by omega), u_ne (by omega)]
    unfold dClear
    rw [Nat.add_zero, if_neg (by omega), if_neg (by omega), u_ne (by omega), s5 x i q1 q2 q3]
  have c25 : ∀ x i, 25 ≤ x → x ≤ 90 → ao_u (ao_u (ao_u (ao_u C4 (92 + 71 * t) 13 0) (92 + 71 * t) 18 (C4 (92 + 71 * t) 18 + 1)) (92 + 71 * t) 8 0) (92 + 71 * t) 2 1 x i = C3 x i := fun x i q1 q2 => by
    rw [u_ne (by omega), u_ne (by omega), u_ne (by omega), u_ne (by omega), s4 x i (by omega)]
  have cR18 : C4 (92 + 71 * t) 18 = C (92 + 71 * t) 18 := by rw [s4 _ _ (by omega), c3 _ _ (by omega), cl _ _ (by omega)]
  have dR62 : D4 562 t = D 562 t := by rw [s5 _ _ (by omega) (by omega) (by omega), d4 _ _ (by omega) (by omega)]
  refine ⟨?_, p5.1, fun x i q1 q2 q3 q4 q5 => ?_, ⟨u_eq, by rw [u_n2 (by omega), u_eq], by rw [u_n2 (by omega), u_n2 (by omega), u_eq, cR18]⟩, fun x i q1 q2 q3 q4 q5 q6 q7 q8 => ?_, ⟨u_eq, ?_, ?_, ?_, ?_⟩, ?_, ?_, ?_, fun p hp => ?_, ?_, ?_⟩
  · obtain ⟨y, y', b1, b2, b3, b4, b5, b6, b8, b9⟩ := p4.1
    have er1 : rmC (ao_u (ao_u (ao_u (ao_u C4 (92 + 71 * t) 13 0) (92 + 71 * t) 18 (C4 (92 + 71 * t) 18 + 1)) (92 + 71 * t) 8 0) (92 + 71 * t) 2 1) = rmC C2 := by
      unfold rmC
      rw [cF _ _ (by omega) (by omega)]
    exact ⟨y, y', b1, b2, b3, b4, b5, b6, by rw [er1]; exact b8, by rw [er1]; exact b9⟩
  · rw [cF x i q2 q3]; exact p4.2 x i (by omega) q4 q5
  · rw [dF x i (by omega) (by omega) (by omega) (by omega) q5 q6, p5.2 x i (by omega) (by omega) q7 q8, dd x i (by omega) (by omega) (by omega)]
  · rw [u_n1 (by omega), u_n1 (by omega)]
    unfold dClear
    rw [if_neg (by omega), if_neg (by omega), u_eq]
  · rw [u_n1 (by omega), u_eq, dR62]
  · rw [dF _ _ (by omega) (by omega) (by omega) (by omega) (by omega) (by omega), dl _ _ (by omega) (by omega) (by omega), w2 _ _ (by omega) (by omega)]; exact du52
  · rw [dF _ _ (by omega) (by omega) (by omega) (by omega) (by omega) (by omega), dl _ _ (by omega) (by omega) (by omega), w2 _ _ (by omega) (by omega)]; exact du57
  · exact Rpl_cell (k := 0) p3 (fun x i hx => cF x i (by omega) (by omega)) (fun x i hx => dF x i (by omega) (by omega) (by omega) (by omega) (by omega) (by omega))
  · refine Rsd_fr s3 (fun x i q1 q2 => by rw [u_n1 (by omega), u_n1 (by omega), u_n1 (by omega), u_n1 (by omega)]) ?_ (fun x i q => ?_)
    · rw [u_n1 (by omega), u_n1 (by omega)]
      unfold dClear
      rw [if_neg (by omega), if_neg (by omega), u_n1 (by omega)]
    · rw [u_n1 (by omega), u_n1 (by omega)]
      unfold dClear
      rw [if_neg (by omega), if_neg (by omega), u_n1 (by omega)]
  · have hR2 : Rrc C2 D := Rrc_fr f10 (fun x i q1 q2 => cl x i (by omega)) rfl (fun _ _ _ _ => rfl)
    have dR : ∀ x i, (587 ≤ x ∧ x ≤ 593 ∨ x = 537 ∧ i = 76) → ao_u (ao_u (dClear t 0 (ao_u D4 556 t 0)) 562 t (D4 562 t + 1)) 551 t 1 x i = D1 x i := fun x i q => by
      rw [dF x i (by omega) (by omega) (by omega) (by omega) (by omega) (by omega), dl x i (by omega) (by omega) (by omega)]
    have hrec : Rrc C3 (ao_u (ao_u (dClear t 0 (ao_u D4 556 t 0)) 562 t (D4 562 t + 1)) 551 t 1) := by
      refine rec_fin (k := k) hR2 hB (by rw [cl _ _ (by omega)]; exact k2) k1 (fun e => ?_) (fun e => ?_)
      · have ed := w3 e
        refine ⟨?_, fun x i q1 q2 => ?_⟩
        · rw [dR _ _ (by omega), ed, du _ _ (by omega)]
        · rw [dR x i (by omega), ed, du x i (by omega)]
      · obtain ⟨t1, t2, t3, t4, t5, t6, t7⟩ := w4 e
        refine ⟨?_, ?_, ?_, ?_, fun x i q1 q2 q3 => ?_, fun x i q1 q2 q3 => ?_, ⟨?_, fun e' he => ?_, fun p hp => ?_⟩, ⟨?_, fun e' he => ?_, fun p hp => ?_⟩⟩
        · rw [dR _ _ (by omega)]; exact t1
        · rw [dR _ _ (by omega), t2, cl _ _ (by omega), g3]
        · rw [dR _ _ (by omega), t3, du _ _ (by omega), cl _ _ (by omega), g8]
        · rw [dR _ _ (by omega), t4, du _ _ (by omega), x65]
        · rw [dR x i (by omega), t5 x i q1 q2 q3, du x i (by omega)]
        · rw [dR x i (by omega), t6 x i q1 q2 q3, du x i (by omega)]
        · rw [List.map_map]
          have : (Prod.fst ∘ fun p => (p, vs p)) = id := rfl
          rw [this, List.map_id]
          exact rC.2.2.2.1
        · obtain ⟨p, hp, rfl⟩ := List.mem_map.mp he
          obtain ⟨y1', y2', y3', -⟩ := d2 p hp
          refine ⟨y1', ?_⟩
          dsimp only
          rw [dR _ _ (by omega), (t7 p y1').2.1, du _ _ (by omega)]
          exact y2'
        · rw [dR _ _ (by omega), (t7 p hp).1, du _ _ (by omega), d1 p hp, List.map_map]
          have : (Prod.fst ∘ fun p => (p, vs p)) = id := rfl
          rw [this, List.map_id]
        · rw [List.map_map]
          have : (Prod.fst ∘ fun p => (p, C2 14 p)) = id := rfl
          rw [this, List.map_id]
          exact List.Pairwise.filter _ List.nodup_range
        · obtain ⟨p, hp, rfl⟩ := List.mem_map.mp he
          obtain ⟨hp1, hp2⟩ := List.mem_filter.mp hp
          have hp26 : p < 26 := by simpa using hp1
          refine ⟨hp26, ?_⟩
          dsimp only
          rw [cl _ _ (by omega)] at hp2
          have h9 := p9 p hp26 hp2
          rw [dR _ _ (by omega), (t7 p hp26).2.2.2, h9, du _ _ (by omega), du _ _ (by omega), du _ _ (by omega), dd 542 _ (by omega) (by omega) (by omega), dd 582 _ (by omega) (by omega) (by omega)]
        · have hW2 := (hW.2 p hp).1
          simp only [Nat.mul_zero, Nat.add_zero] at hW2
          rw [dR _ _ (by omega), (t7 p hp).2.2.1, du _ _ (by omega), hW2, List.map_map]
          have : (Prod.fst ∘ fun p => (p, C2 14 p)) = id := rfl
          rw [this, List.map_id]
          by_cases q : bt (C (92 + 71 * t + 8) 6) p = true
          · rw [if_pos q, if_pos (List.mem_filter.mpr ⟨by simpa using hp, by rw [cl _ _ (by omega)]; exact q⟩)]
          · rw [if_neg q, if_neg (fun z => q (by have := (List.mem_filter.mp z).2; rw [cl _ _ (by omega)] at this; exact this))]
    exact Rrc_fr hrec (fun x i q1 q2 => c25 x i q1 q2) rfl (fun _ _ _ _ => rfl)
  · rw [cF _ _ (by omega) (by omega)]; exact p6 p hp
  · intro q
    have := p7 q
    rw [cntK_e (C := C2) (fun p hp => cF _ _ (by omega) (by omega))]
    exact this
  · exact p8
