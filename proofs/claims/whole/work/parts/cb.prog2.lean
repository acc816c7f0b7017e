set_option linter.unusedSimpArgs false
set_option linter.unusedVariables false
/-! ===== calls between calls: program ===== -/
section Ccb
variable {m B1 B2 E1 E2 : Nat} {C D : ao_M} {ρ σ : ao_H}
theorem byte_id {x : Int32} (h : -128 ≤ x.toInt ∧ x.toInt ≤ 127) : x.toInt8.toInt32 = x := all_byte (P := fun x => x.toInt8.toInt32 = x) (by decide +kernel) x h.1 h.2
theorem d_src (hs : ShD σ) {x1 : Int32} {l : Nat} (hl : l ≤ 1000) : ∀ (k u : Nat) (D : ao_M), u + k = l → D 537 7 = nI l → (∀ i, i < l → -128 ≤ (D 539 i).toInt ∧ (D 539 i).toInt ≤ 127) → ∃ D', (∀ i, u ≤ i → i < l → D' 540 i = D 539 i) ∧ (∀ x i, ¬ (x = 540 ∧ u ≤ i ∧ i < l) → D' x i = D x i) ∧ ∀ {Q : Int32 × ao_S → Prop}, hv (fun n => fX12_program n 15 537 x1 (nI l) 0 0 D' σ) Q → hv (fun n => fX12_program n 15 537 x1 (nI u) 0 0 D σ) Q := by
  intro k
  induction k with
  | zero =>
    intro u D h h7 hb
    obtain rfl : u = l := by omega
    exact ⟨D, fun i q1 q2 => by omega, fun _ _ _ => rfl, fun hQ => hQ⟩
  | succ k ih =>
    intro u D h h7 hb
    obtain ⟨D', q1, q2, q3⟩ := ih (u + 1) (ao_u D 540 u ((D 539 u).toInt8.toInt32)) (by omega) (by rw [u_ne (by omega)]; exact h7) (fun i hi => by rw [u_ne (by omega)]; exact hb i hi)
    refine ⟨D', fun i z1 z2 => ?_, fun x i z => ?_, fun {Q} hQ => ?_⟩
    · by_cases e : i = u
      · subst e
        rw [q2 _ _ (by omega), u_eq, byte_id (hb i (by omega))]
      · rw [q1 i (by omega) z2, u_ne (by omega)]
    · rw [q2 x i (by omega), u_ne (by omega)]
    · refine hv_up (fun _ => fX12_program.eq_2 ..) ?_
      try simp only [↓reduceIte, Nat.reduceEqDiff, Option.bind_some, ao_let, n_ell, hs, h7]
      try simp (disch := first | omega | assumption) only [↓reduceIte, Nat.reduceEqDiff, Option.bind_some, ao_let, t_le, f_le, t_lt, f_lt, f_eq, u_eq, u_n1, u_n2, n_cl, n_lt, n_le, n_eq, n_ltl, n_llt, n_lel, n_lle, n_eql, n_leq, n_add, n_mul, n_sub, n_addl, n_ladd, n_mull, n_lmul, n_subl, Int32.reduceLT, Int32.reduceLE, Int32.reduceAdd, Int32.reduceSub, Int32.reduceMul, Int32.reduceToNatClampNeg, not_false_eq_true, not_true_eq_false, or_false, false_or, or_self, and_self, false_and, true_and, and_false, and_true, true_or, or_true, Nat.reduceAdd, Nat.reduceMul, Nat.reduceLT, Nat.reduceLeDiff, ne_eq, n_ell, hs, h7]
      exact q3 hQ
theorem d_cod (hs : ShD σ) {t I : Nat} (ht : t < 6) (hI : I ≤ 2001) : ∀ (k u : Nat) (D : ao_M), u + k = 3 * I → D 537 13 = nI I → ∃ D', (∀ x, u ≤ x → x < 3 * I → D' 550 (t * 18000 + x) = D 541 x) ∧ (∀ x i, ¬ (x = 550 ∧ t * 18000 + u ≤ i ∧ i < t * 18000 + 3 * I) → D' x i = D x i) ∧ ∀ {Q : Int32 × ao_S → Prop}, hv (fun n => fX12_program n 124 537 (nI t) (nI (3 * I)) 0 0 D' σ) Q → hv (fun n => fX12_program n 124 537 (nI t) (nI u) 0 0 D σ) Q := by
  intro k
  induction k with
  | zero =>
    intro u D h h13
    obtain rfl : u = 3 * I := by omega
    exact ⟨D, fun i q1 q2 => by omega, fun _ _ _ => rfl, fun hQ => hQ⟩
  | succ k ih =>
    intro u D h h13
    obtain ⟨D', q1, q2, q3⟩ := ih (u + 1) (ao_u D 550 (t * 3 * 6000 + u) (D 541 u)) (by omega) (by rw [u_ne (by omega)]; exact h13)
    refine ⟨D', fun i z1 z2 => ?_, fun x i z => ?_, fun {Q} hQ => ?_⟩
    · by_cases e : i = u
      · subst e
        rw [q2 _ _ (by omega), show t * 18000 + i = t * 3 * 6000 + i by omega, u_eq]
      · rw [q1 i (by omega) z2, u_ne (by omega)]
    · rw [q2 x i (by omega), u_ne (by omega)]
    · refine hv_up (fun _ => fX12_program.eq_2 ..) ?_
      try simp only [↓reduceIte, Nat.reduceEqDiff, Option.bind_some, ao_let, n_ell, hs, h13]
      try simp (disch := first | omega | assumption) only [↓reduceIte, Nat.reduceEqDiff, Option.bind_some, ao_let, t_le, f_le, t_lt, f_lt, f_eq, u_eq, u_n1, u_n2, n_cl, n_lt, n_le, n_eq, n_ltl, n_llt, n_lel, n_lle, n_eql, n_leq, n_add, n_mul, n_sub, n_addl, n_ladd, n_mull, n_lmul, n_subl, Int32.reduceLT, Int32.reduceLE, Int32.reduceAdd, Int32.reduceSub, Int32.reduceMul, Int32.reduceToNatClampNeg, not_false_eq_true, not_true_eq_false, or_false, false_or, or_self, and_self, false_and, true_and, and_false, and_true, true_or, or_true, Nat.reduceAdd, Nat.reduceMul, Nat.reduceLT, Nat.reduceLeDiff, ne_eq, n_ell, hs, h13]
      exact q3 hQ
theorem Hpr_30 {z : Nat} (hz : ρ.2.2.2.1 = some z) (h9 : 599 ≤ z) (t : Nat) : Hpr t z z ρ (ao_r ρ 3 0 (some 1)) := by
  refine ⟨hz, hz, Nat.le_refl _, h9, fun x _ => ⟨rfl, rfl⟩, fun x k _ h1 _ => ?_⟩
  show (if x = 3 ∧ k = 0 then some 1 else ρ.1 x k) = ρ.1 x k
  rw [if_neg h1]
theorem Full_r30 {kp rc nw bw br : Nat} (h : Full C ρ D σ kp rc nw bw br) : Full C (ao_r ρ 3 0 (some 1)) D σ kp rc nw bw br := by
  obtain ⟨⟨z, hz, h9⟩, -⟩ := Rpl_z h.2.1
  obtain ⟨⟨f1, f2, f3, f4⟩, ⟨f, g, hh, pc, pd, ch, pe, ec⟩, f6, f8, f9, f10, f11, f12, f13, f14, f15, f16⟩ := h
  have hH := Hpr_30 hz h9
  obtain ⟨g1, g2, g3⟩ := Hpr_A (hH 0) (by omega)
  refine ⟨⟨g1 f1, g2 f2, g3 f3, f4⟩, ⟨f, g, hh, Hpr_pl (hH 0) (by omega) (fun _ _ _ _ => rfl) pc, pd, ch, pe, ec⟩, f6, f8, f9, f10, f11, fun u hu => Thr_own (f12 u hu) hu (fun _ _ _ _ => rfl) (fun _ _ _ _ _ _ => rfl) (fun len kd a1 a2 a3 q => ?_), f13, f14, f15, f16⟩
  by_cases e : u = 0
  · exact Hpr_cat (hH 1) (by omega) hu (by omega) (fun _ _ _ _ => rfl) q
  · exact Hpr_cat (hH 0) (by omega) hu e (fun _ _ _ _ => rfl) q
theorem PR_r30 (h : PR m B1 B2 E1 E2 C ρ D σ) : PR m B1 B2 E1 E2 C (ao_r ρ 3 0 (some 1)) D σ := by
  obtain ⟨kp, rc, n, ⟨h1, h2⟩, ⟨⟨⟨⟨a1, a2, a3⟩, a4, ⟨z, hz, h9⟩, a6⟩, rm, b, c, d⟩, h3'⟩, h4, h5, h6⟩ := h
  have hH := Hpr_30 hz h9 0
  obtain ⟨g1, g2, g3⟩ := Hpr_A hH (by omega)
  exact ⟨kp, rc, n, ⟨h1, Full_r30 h2⟩, ⟨⟨⟨⟨g1 a1, g2 a2, g3 a3⟩, fun x q => a4 x ((Hpr_P hH (by omega)).mp q), ⟨z, hz, h9⟩, Ku_mk a6 (fun x => Or.inl rfl) (Kz_r (Ku_z a6) hz (by omega) (by omega))⟩, rm, b, c, d⟩, h3'⟩, h4, h5, h6⟩
/-- the heap when thread t has got its code -/
def prH (ρ : ao_H) (t z L : Nat) : ao_H := ao_r (inH (ao_nw (ao_r ρ 3 0 (some 1)) z 11 0 6) z L) (92 + 71 * t) 1 (some z)
set_option maxHeartbeats 8000000 in
theorem prH_ok {t z L : Nat} (hz : ρ.2.2.2.1 = some z) (h9 : 599 ≤ z) (ht : t < 6) : Hpr t z (z + 1 + 1 + 1 + 1) ρ (prH ρ t z L) ∧ (∀ x, (prH ρ t z L).2.1 x = ρ.2.1 x ∨ (prH ρ t z L).2.1 x = 11 ∨ (prH ρ t z L).2.1 x = 0) ∧ ((prH ρ t z L).2.2.2.2.1 = ρ.2.2.2.2.1 + 4 ∧ (prH ρ t z L).2.2.2.2.2 = ρ.2.2.2.2.2 + 6 + L + L + L) ∧ ((prH ρ t z L).1 (92 + 71 * t) 1 = some z ∧ (prH ρ t z L).1 z 1 = some (z + 1) ∧ (prH ρ t z L).1 z 2 = some (z + 1 + 1) ∧ (prH ρ t z L).1 z 3 = some (z + 1 + 1 + 1)) ∧ ((prH ρ t z L).2.1 z = 11 ∧ (prH ρ t z L).2.1 (z + 1) = 0 ∧ (prH ρ t z L).2.1 (z + 1 + 1) = 0 ∧ (prH ρ t z L).2.1 (z + 1 + 1 + 1) = 0) ∧ (prH ρ t z L).2.2.1 (z + 1) = L ∧ (prH ρ t z L).2.2.1 (z + 1 + 1) = L ∧ (prH ρ t z L).2.2.1 (z + 1 + 1 + 1) = L := by
  unfold prH inH
  refine ⟨⟨hz, ?_, by omega, h9, fun x hx => ⟨?_, ?_⟩, fun x k hx h1 h2 => ?_⟩, fun x => ?_, ⟨?_, ?_⟩, ⟨?_, ?_, ?_, ?_⟩, ⟨?_, ?_, ?_, ?_⟩, ?_, ?_, ?_⟩
  · rfl
  · simp (disch := omega) only [r_K, nw_K]
  · simp (disch := omega) only [r_L, nw_L]
  · show (if x = 92 + 71 * t ∧ k = 1 then some z else _) = ρ.1 x k
    rw [if_neg h2]
    simp (disch := omega) only [r_Fn, nw_F]
    show (if x = 3 ∧ k = 0 then some 1 else ρ.1 x k) = ρ.1 x k
    rw [if_neg h1]
  · by_cases e0 : x = z
    · subst e0
      refine Or.inr (Or.inl ?_)
      simp (disch := omega) only [r_K, nw_K, nw_Ke]
    · by_cases e1 : x = z + 1
      · subst e1
        refine Or.inr (Or.inr ?_)
        simp (disch := omega) only [r_K, nw_K, nw_Ke]
      · by_cases e2 : x = z + 1 + 1
        · subst e2
          refine Or.inr (Or.inr ?_)
          simp (disch := omega) only [r_K, nw_K, nw_Ke]
        · by_cases e3 : x = z + 1 + 1 + 1
          · subst e3
            refine Or.inr (Or.inr ?_)
            simp (disch := omega) only [r_K, nw_K, nw_Ke]
          · refine Or.inl ?_
            simp (disch := omega) only [r_K, nw_K]
  · rfl
  · rfl
  · exact r_Fe
  · simp (disch := omega) only [r_Fn, r_Fm, nw_F, r_Fe]
  · simp (disch := omega) only [r_Fn, r_Fm, nw_F, r_Fe]
  · simp (disch := omega) only [r_Fn, r_Fm, nw_F, r_Fe]
  · simp (disch := omega) only [r_K, nw_K, nw_Ke]
  · simp (disch := omega) only [r_K, nw_K, nw_Ke]
  · simp (disch := omega) only [r_K, nw_K, nw_Ke]
  · simp (disch := omega) only [r_K, nw_K, nw_Ke]
  · simp (disch := omega) only [r_L, nw_L, nw_Le]
  · simp (disch := omega) only [r_L, nw_L, nw_Le]
  · simp (disch := omega) only [r_L, nw_L, nw_Le]
theorem prH_n {t z L : Nat} (hz : ρ.2.2.2.1 = some z) (h9 : 599 ≤ z) (ht : t < 6) (hu : Ku ρ) : Kz (prH ρ t z L) := by
  unfold prH inH
  refine Kz_r (w := z + 1 + 1 + 1 + 1) (Kz_r (w := z + 1 + 1 + 1 + 1) (Kz_nw (Kz_r (w := z + 1 + 1 + 1) (Kz_nw (Kz_r (w := z + 1 + 1) (Kz_nw (Kz_nw (Kz_r (Ku_z hu) hz (by omega) (by omega)) hz) rfl) rfl (by omega) (by omega)) rfl) rfl (by omega) (by omega)) rfl) rfl (by omega) (by omega)) rfl (by omega) (by omega)
set_option maxHeartbeats 8000000 in
/-- after a program was read -/
theorem PR_pg {t z L l I st : Nat} {C1 C4 C5 D3 D4 D5 Ds : ao_M} (h : PR m B1 B2 E1 E2 C ρ D σ) (hm : m + 1 ≤ 512) (ht : t < 6) (hs2 : C (92 + 71 * t) 2 ≠ 2) (hz : ρ.2.2.2.1 = some z) (h9 : 599 ≤ z) (hL : L ≤ 1000)
    (kC : KpC (ao_u C 0 4 0) C1) (cpA : ∀ i, i < L → C4 (z + 1) i = (ao_u C1 0 5 (-1)) 9 i ∧ C4 (z + 1 + 1) i = (ao_u C1 0 5 (-1)) 10 i ∧ C4 (z + 1 + 1 + 1) i = (ao_u C1 0 5 (-1)) 11 i) (cpB : C4 z 0 = nI L ∧ C4 z 4 = nI L ∧ C4 z 5 = nI st) (cpC : ∀ x i, x < z → C4 x i = (ao_u C1 0 5 (-1)) x i) (rn : RnwC t C4 C5)
    (ds7 : Ds 537 6 = 0) (dsF : ∀ x j, ¬ (x = 537 ∧ (j = 6 ∨ j = 7)) → x ≠ 540 → Ds x j = D x j) (kD : KpD (ao_u (ao_u Ds 537 0 0) 537 3 (-1)) D3) (hI : I ≤ 2001) (cd1 : ∀ x, x < 3 * I → D4 550 (t * 18000 + x) = D3 541 x) (cd2 : ∀ x i, ¬ (x = 550 ∧ t * 18000 ≤ i ∧ i < t * 18000 + 3 * I) → D4 x i = D3 x i) (rv : ResV t (ao_u D4 551 t 1) D5) (rf : ResF t (ao_u D4 551 t 1) D5)
    (hck : ∀ op fi se d : Fn, (∀ i, i < L → op i = C1 9 i ∧ fi i = C1 10 i ∧ se i = C1 11 i) → (∀ x, x < 3 * I → d x = D3 541 x) → ∃ φ N H K, Cok op fi se d L φ N H K) : PR (m + 1) (B1 + 5) (B2 + 3100) E1 E2 (ao_u C5 598 0 (nI st)) (prH ρ t z L) D5 σ ∧ D5 537 0 = 0 ∧ ShO (prH ρ t z L) := by
  obtain ⟨kp, rc, n, ⟨h1, h2⟩, ⟨⟨⟨⟨a1, a2, a3⟩, a4, -, a6⟩, rm, ⟨m1, m2, m3, m4, m5, m6⟩, c, d⟩, h3', h30⟩, h4, h5, h6⟩ := h
  obtain ⟨hH, hK, ⟨n1, n2⟩, ⟨o1, o2, o3, o4⟩, ⟨p1, p2, p3, p4⟩, p5, p6, p7⟩ := prH_ok (L := L) hz h9 ht
  have hU := prH_n (t := t) (L := L) hz h9 ht a6
  obtain ⟨r1, r2, r3, r4⟩ := rn
  obtain ⟨v1, v2, v3⟩ := rv
  have cl : ∀ x i, 12 ≤ x → x < z → ¬ (92 + 71 * t ≤ x ∧ x < 92 + 71 * t + 71) → x ≠ 598 → ao_u C5 598 0 (nI st) x i = C x i := fun x i q1 q2 q3 q4 => by
    rw [u_ne (by omega), r4 x i (by omega) (by omega), cpC x i q2, u_ne (by omega), kC x i (by omega), u_ne (by omega)]
  have c80 : ao_u C5 598 0 (nI st) 8 0 = C 8 0 := by
    rw [u_ne (by omega), r4 _ _ (by omega) (by omega), cpC _ _ (by omega), u_ne (by omega), kC _ _ (by omega), u_ne (by omega)]
  have cR : ∀ i, ao_u C5 598 0 (nI st) (92 + 71 * t) i = C5 (92 + 71 * t) i := fun i => u_ne (by omega)
  have cR6 : ∀ i, ao_u C5 598 0 (nI st) (92 + 71 * t + 6) i = C5 (92 + 71 * t + 6) i := fun i => u_ne (by omega)
  have cN : ∀ x i, z ≤ x → ao_u C5 598 0 (nI st) x i = C4 x i := fun x i q => by rw [u_ne (by omega), r4 x i (by omega) (by omega)]
  have c0R : ao_u C5 598 0 (nI st) (92 + 71 * t) 0 = C (92 + 71 * t) 0 := by
    rw [cR, r4 _ _ (by omega) (by omega), cpC _ _ (by omega), u_ne (by omega), kC _ _ (by omega), u_ne (by omega)]
  have c04 : ao_u C5 598 0 (nI st) 0 4 = 0 := by
    rw [u_ne (by omega), r4 _ _ (by omega) (by omega), cpC _ _ (by omega), u_ne (by omega), kC _ _ (by omega), u_eq]
  have c05 : ao_u C5 598 0 (nI st) 0 5 = -1 := by
    rw [u_ne (by omega), r4 _ _ (by omega) (by omega), cpC _ _ (by omega), u_eq]
  have c1 : ∀ i, ao_u C5 598 0 (nI st) 1 i = C 1 i := fun i => by
    rw [u_ne (by omega), r4 _ _ (by omega) (by omega), cpC _ _ (by omega), u_ne (by omega), kC _ _ (by omega), u_ne (by omega)]
  clear kC cpC r4
  generalize ao_u C5 598 0 (nI st) = C' at *
  -- the reference
  have d3 : ∀ x i, ¬ (551 ≤ x ∧ x ≤ 562 ∧ x ≠ 553 ∧ x ≠ 554 ∧ i = t) → ¬ (x = 553 ∧ t * 26 ≤ i ∧ i < t * 26 + 26) → ¬ ((x = 577 ∨ x = 578) ∧ t * 12 * 26 ≤ i ∧ i < t * 12 * 26 + 26) → ¬ (x = 584 ∧ i = t * 12) → ¬ (x = 550 ∧ t * 18000 ≤ i ∧ i < t * 18000 + 3 * I) → D5 x i = D3 x i := fun x i q1 q2 q3 q4 q5 => by
    rw [rf x i q1 q2 q3 q4, u_ne (by omega), cd2 x i q5]
  have dk : ∀ x i, ¬ (x = 537 ∧ (i = 2 ∨ 8 ≤ i ∧ i ≤ 11 ∨ 13 ≤ i ∧ i ≤ 16)) → x ≠ 541 → D3 x i = ao_u (ao_u Ds 537 0 0) 537 3 (-1) x i := fun x i q1 q2 => kD x i (by omega)
  have dD : ∀ x i, 537 ≤ x → ¬ (x = 537 ∧ i < 17) → ¬ (538 ≤ x ∧ x ≤ 541) → ¬ (550 ≤ x ∧ x ≤ 584 ∧ t * wd x ≤ i ∧ i < (t + 1) * wd x) → D5 x i = ao_u D 537 0 0 x i := by
    intro x i q1 q2 q3 q4
    obtain ⟨u1, u2, u3, u4, u5⟩ := wd_of (t := t) (x := x) (i := i) (fun q => q4 ⟨by omega, q.2⟩)
    have u6 : x = 550 → ¬ (t * 18000 ≤ i ∧ i < (t + 1) * 18000) := fun e q => by
      subst e
      exact q4 ⟨by omega, by omega, q⟩
    rw [d3 x i (fun q => u1 (by omega) q.2.2.2.2) (fun q => u3 q.1 (by omega)) (fun q => u4 (by omega) (by omega)) (fun q => u2 (by omega) (by omega)) (fun q => u6 q.1 (by omega)), dk x i (by omega) (by omega), u_ne (by omega), u_ne (by omega), dsF x i (by omega) (by omega), u_ne (by omega)]
  have d0 : D5 537 0 = 0 := by
    rw [d3 _ _ (by omega) (by omega) (by omega) (by omega) (by omega), dk _ _ (by omega) (by omega), u_ne (by omega), u_eq]
  have d53 : D5 537 3 = -1 := by
    rw [d3 _ _ (by omega) (by omega) (by omega) (by omega) (by omega), dk _ _ (by omega) (by omega), u_eq]
  have d56 : D5 537 6 = 0 := by
    rw [d3 _ _ (by omega) (by omega) (by omega) (by omega) (by omega), dk _ _ (by omega) (by omega), u_ne (by omega), u_ne (by omega)]; exact ds7
  have d539 : ∀ i, D5 539 i = D 539 i := fun i => by
    rw [d3 _ _ (by omega) (by omega) (by omega) (by omega) (by omega), dk _ _ (by omega) (by omega), u_ne (by omega), u_ne (by omega), dsF _ _ (by omega) (by omega)]
  have d550 : ∀ x, x < 3 * I → dcd D5 t x = D3 541 x := fun x hx => by
    unfold dcd
    rw [if_pos (by omega), rf _ _ (by omega) (by omega) (by omega) (by omega), u_ne (by omega)]
    exact cd1 x hx
  have d551 : D5 551 t = 1 := by
    rw [v1, u_eq]
    rfl
  clear rf cd1 cd2 kD d3 dk dsF
  -- thread t
  have tN : ∀ x i, z ≤ x → tk C' x i = C4 x i := fun x i q => by rw [tk_n (by omega)]; exact cN x i q
  obtain ⟨φ, N, H, K, ck⟩ := hck (tk C' (z + 1)) (tk C' (z + 1 + 1)) (tk C' (z + 1 + 1 + 1)) (dcd D5 t) (fun i hi => by
    obtain ⟨y1, y2, y3⟩ := cpA i hi
    rw [tN _ _ (by omega), tN _ _ (by omega), tN _ _ (by omega), y1, y2, y3, u_ne (by omega), u_ne (by omega), u_ne (by omega)]
    exact ⟨rfl, rfl, rfl⟩) d550
  have nP : ∀ x, z ≤ x → ¬ PAc (prH ρ t z L) x := fun x hx q => by
    rw [Hpr_P hH ht] at q
    obtain ⟨f, g, hh, pc, -⟩ := h2.2.1
    obtain ⟨a, b, c, rm, y, w1, w2, w3, -, -, -, -, -, -, -, -, -, -, -, -, -, -, -, -, -, w21, -, w23, w24, w25, -⟩ := pc
    obtain rfl : z = y := by rw [hz] at w21; exact Option.some.inj w21
    rcases q with q | q | q
    · rw [w1] at q; have := Option.some.inj q; omega
    · rw [w2] at q; have := Option.some.inj q; omega
    · rw [w3] at q; have := Option.some.inj q; omega
  have hcat : Cat (tk C') (prH ρ t z L) t L z (z + 1) (z + 1 + 1) (z + 1 + 1 + 1) := ⟨o1, p1, o2, o3, o4, p2, p3, p4, p5, p6, p7, by rw [tN _ _ (by omega)]; exact cpB.1, by rw [tN _ _ (by omega)]; exact cpB.2.1, by omega, by omega, by omega, by omega, nP _ (by omega), nP _ (by omega), nP _ (by omega), nP _ (by omega), z + 1 + 1 + 1 + 1, hH.2.1, by omega, by omega, by omega, by omega⟩
  have t1 : ∀ i, tk C' (92 + 71 * t) i = C5 (92 + 71 * t) i := fun i => by rw [tk_n (by omega), cR]
  have cT : C (92 + 71 * t) 0 = nI t := by
    obtain ⟨s, -, -, -, q4, -⟩ := h2.2.2.2.2.2.2.2.1 t ht
    rw [tk_n (by omega)] at q4; exact q4
  have hT : Thr (tk C') (prH ρ t z L) D5 rc t := Thr_new (rc := rc) (s := 1) hcat ck (by rw [tk_n (by omega), c0R]; exact cT) (by rw [t1, t1, t1, t1, t1, t1]; exact r1) (fun i q1 q2 => by rw [t1]; exact r2 i q1 q2) (fun k hk => by rw [tk_n (by omega), cR6]; exact r3 k hk) d551 v2 v3
  have e12 : ∀ i, C' 12 i = C 12 i := fun i => cl _ _ (by omega) (by omega) (by omega) (by omega)
  have hX : Ext (tk C') D5 (2 * n) := by
    obtain ⟨⟨k, k1, k2, k3, k4⟩, ⟨l', l1, l2, l3, l4⟩, x3, x4, x5, x6, x7, x8⟩ := h2.2.2.1.2.2
    refine ⟨⟨k, k1, ?_, ?_, fun i hi => ?_⟩, ⟨0, by omega, ?_, d56, fun i hi => ?_⟩, ?_, x4, ?_, ?_, ?_, d0⟩
    · rw [tk_n (by omega)] at k2
      rw [tk_n (by omega), cl _ _ (by omega) (by omega) (by omega) (by omega)]; exact k2
    · rw [dD _ _ (by omega) (by omega) (by omega) (by omega)]; exact k3
    · have := k4 i hi
      rw [tk_n (by omega)] at this
      rw [tk_n (by omega), cl _ _ (by omega) (by omega) (by omega) (by omega), dD _ _ (by omega) (by omega) (by omega) (by omega)]; exact this
    · rw [tk_n (by omega)]; exact c04
    · have := l4 i hi
      rw [tk_n (by omega), u_ne (by omega)] at this
      rw [tk_n (by omega), c1, d539]; exact this
    · rw [tk_n (by omega), c05, d53]
    · rw [tk_6] at x5
      rw [tk_6, e12]; exact x5
    · rw [dD _ _ (by omega) (by omega) (by omega) (by omega)]; exact x6
    · rw [tk_4] at x7
      rw [tk_4, e12]; exact x7
  have F := Full_prog h2 ht hs2 hH cl dD hX hT (by rw [cR]; exact r1.2.2.2.1) (by rw [cR]; exact r1.1)
  have hn : n ≤ 20000 := by
    have := hX.2.2.2.1
    omega
  have hO1 : ShO (prH ρ t z L) := ⟨(hH.2.2.2.2.1 598 (by omega)).1.trans h5.1, (hH.2.2.2.2.1 598 (by omega)).2.trans h5.2⟩
  rw [← u_self d0] at F
  obtain ⟨g1, g2, g3⟩ := Hpr_A hH ht
  refine ⟨⟨kp, rc, n, ⟨by rw [e12]; exact h1, Full_br F (by omega) (by omega) (by omega) (by omega)⟩, ⟨⟨⟨⟨g1 a1, g2 a2, g3 a3⟩, fun x q => a4 x ((Hpr_P hH ht).mp q), ⟨_, hH.2.1, by omega⟩, Ku_mk a6 hK hU⟩, rm, ⟨by rw [c80]; exact m1, by rw [cl _ _ (by omega) (by omega) (by omega) (by omega)]; exact m2, m3, m4, fun u hu => ?_, fun i hi => ?_⟩, by omega, by omega⟩, fun u hu => ?_, by rw [e12]; exact h30⟩, h4, hO1, hm⟩, d0, hO1⟩
  · rw [e12]
    by_cases e : u = t
    · subst e
      rw [cR, r2 16 (by omega) (by omega)]; exact h30
    · rw [cl _ _ (by omega) (by omega) (by omega) (by omega)]; exact m5 u hu
  · rw [cl _ _ (by omega) (by omega) (by omega) (by omega), cl _ _ (by omega) (by omega) (by omega) (by omega)]; exact m6 i hi
  · rw [e12]
    by_cases e : u = t
    · subst e
      rw [cR, r2 16 (by omega) (by omega), h1, show (0 : Int32) = nI 0 from rfl, n_le (by omega) (by omega)]
      omega
    · rw [cl _ _ (by omega) (by omega) (by omega) (by omega)]; exact h3' u hu
end Ccb
