set_option linter.unusedSimpArgs false
set_option linter.unusedVariables false
theorem begin_fin {C D C' D' : ao_M} {ρ σ : ao_H} {kp rc nw bw br t len kd a1 a2 a3 a B r : Nat} {φ : Nat → Nat} {N : Ns} {H K : Nat → Nat} (hF : Full C ρ D σ kp rc (2 * nw) bw br) (ht : t < 6) (ho : Opn C ρ D rc t 1 len kd a1 a2 a3 φ N H K a) (ha : a < len) (j1 : φ (a + 1) = φ a + 1) (j2 : N (a + 1) = (0, a) :: N a) (j3 : H (a + 1) = 0) (i3 : H a = 0) (hB : C a3 a = nI B) (hBl : B ≤ len) (h0 : nl (N a) = 0) (hor : C a2 a = -1 ∧ r = 0 ∨ ∃ T, C a2 a = nI T ∧ r = φ T + 1 ∧ T ≤ len) (hnc : C 12 6 = nI nw) (hnd : D 537 65 = nI nw) (bs : Nat) (hbs : D 537 63 = nI bs)
    (hC : ∀ x i, x ≠ 92 + 71 * t + 8 → x ≠ 92 + 71 * t + 8 + 5 → ¬ (x = 92 + 71 * t ∧ (i = 2 ∨ i = 3 ∨ i = 8 ∨ i = 13 ∨ i = 14 ∨ i = 15 ∨ i = 16)) → C' x i = C x i)
    (hD : ∀ x i, ¬ (x = 537 ∧ i = 63) → ¬ (i = t ∧ (x = 551 ∨ x = 552 ∨ x = 556 ∨ x = 557 ∨ x = 560 ∨ x = 563 ∨ x = 564)) → ¬ (x = 565 ∧ i = t * 12 + ns (N a)) → ¬ ((570 ≤ x ∧ x ≤ 574 ∨ x = 576 ∨ x = 584) ∧ i = t * 12) → ¬ ((x = 575 ∨ x = 577 ∨ x = 578) ∧ t * 12 * 26 ≤ i ∧ i < t * 12 * 26 + 26) → D' x i = D x i)
    (c2 : C' (92 + 71 * t) 2 = 2) (c3 : C' (92 + 71 * t) 3 = nI (a + 1)) (c8 : C' (92 + 71 * t) 8 = nI 1) (c13 : C' (92 + 71 * t) 13 = 0) (c14 : C' (92 + 71 * t) 14 = C 13 4) (c15 : C' (92 + 71 * t) 15 = nI nw) (c16 : C' (92 + 71 * t) 16 = nI nw)
    (l3 : C' (92 + 71 * t + 8) 3 = 0) (l4 : C' (92 + 71 * t + 8) 4 = 0) (l6 : C' (92 + 71 * t + 8) 6 = 0) (l8 : C' (92 + 71 * t + 8) 8 = nI a) (l9 : C' (92 + 71 * t + 8) 9 = 0) (l10 : C' (92 + 71 * t + 8) 10 = 0) (l11 : C' (92 + 71 * t + 8) 11 = C (92 + 71 * t) 11) (lr : ∀ k, k < 26 → C' (92 + 71 * t + 8 + 5) k = C (92 + 71 * t + 6) k)
    (d51 : D' 551 t = 2) (d52 : D' 552 t = nI (φ a + 1)) (d56 : D' 556 t = nI 1) (d57 : D' 557 t = nI (ns (N a) + 1)) (d60 : D' 560 t = D 537 26) (d63 : D' 563 t = nI bs) (d64 : D' 564 t = nI nw) (d563 : D' 537 63 = nI (bs + 1)) (d65 : D' 565 (t * 12 + ns (N a)) = 0) (d70 : D' 570 (t * 12) = nI (φ a + 1)) (d71 : D' 571 (t * 12) = nI r - 1) (d72 : D' 572 (t * 12) = nI (φ B)) (d73 : D' 573 (t * 12) = nI (ns (N a) + 1)) (d74 : D' 574 (t * 12) = D 558 t) (d76 : D' 576 (t * 12) = 0) (d84 : D' 584 (t * 12) = 0)
    (d75 : ∀ k, k < 26 → D' 575 (t * 12 * 26 + k) = D 553 (t * 26 + k)) (d77 : ∀ k, k < 26 → D' 577 (t * 12 * 26 + k) = 0 ∧ D' 578 (t * 12 * 26 + k) = 0) : EndP kp rc (2 * nw + 1) bw br (0, C', ρ) (0, D', σ) := by
  have hF' := hF
  obtain ⟨hcat, cok, tc⟩ := ho
  obtain ⟨-, ⟨pf, pg, ph, -, -, -, -, ec⟩, ⟨fw, -⟩, -, fS, fRc, frc, fT, fB, -, fbw, fbr⟩ := hF
  have q58 : D 558 t = nI (nt (N a)) := tc.2.2.2.2.2.2.2.2.2.2.2.2.1.2.1
  have n8 : C (92 + 71 * t) 8 = 0 := (tc.2.2.2.2.2.2.2.2.2.2.2.2.2.1 rfl).2.1
  have nsl := @ns_le (N a)
  have hna := (cok.2.2.2.2.2.1 a tc.2.2.2.2.2.2.2.2.1).2.1
  have tc' : Tc C' D' rc t 2 (C a2) (C a3) len φ N H (a + 1) := by
    refine open_ok ht cok tc ha j1 j2 j3 i3 hB hBl ?_ ?_ c2 c3 (by rw [h0]; exact c8) (by rw [c13, if_neg (by omega)]) ⟨by rw [c14, d60]; exact ec, by rw [c16, d64]⟩ (by rw [h0]; exact l3) (by rw [h0]; exact l4) (by rw [h0]; exact l6) (by rw [h0]; exact l8) (by rw [h0]; exact l9) (by rw [h0, c13]; exact l10) (by rw [h0]; exact l11) (by rw [h0]; exact lr) d51 d52 (by rw [h0]; exact d56) d57 (by rw [h0]; exact d65) (by rw [h0]; exact d70) ?_ (by rw [h0]; exact d72) (by rw [h0]; exact d73) (by rw [h0]; exact d74.trans q58) (by rw [h0]; exact d76) (by rw [h0]; exact d84) (by rw [h0]; exact d75) (by rw [h0]; exact d77)
    · intro x i q1 q2 q3 q4 q5
      rw [h0] at q3 q4
      exact hC x i (by omega) (by omega) q5
    · intro x i q1 q2 q3 q4 q5 q6
      rw [h0] at q5 q6
      exact hD x i (by omega) q3 q4 (by omega) (by omega)
    · rw [h0, Nat.add_zero, d71]
      exact or_at hor
  obtain ⟨z1, z2, z3, z4⟩ := Cat_loc hcat (C' := C') (fun x i hx => hC x i (by omega) (by omega) (by omega))
  have ed : dcd D' t = dcd D t := dcd_eq (fun i => hD _ _ (by omega) (by omega) (by omega) (by omega) (by omega))
  have hT : Thr C' ρ D' rc t := Tc_Thr z1 (by rw [z2, z3, z4, ed]; exact cok) (by rw [z3, z4]; exact tc')
  have e8 : dpC C t = 0 := by
    unfold dpC
    rw [n8]; decide
  have e8' : dpC C' t = 1 := by
    unfold dpC
    rw [c8, n_cl (by omega)]
  have hBt : Bth C' D' ((2 * nw + 1 + 1) / 2) := by
    rw [show (2 * nw + 1 + 1) / 2 = nw + 1 by omega]
    rw [show (2 * nw + 1) / 2 = nw by omega] at fB
    obtain ⟨f, g, bs', b0, b1, bk, b2⟩ := fB
    have hst := (tc.2.1)
    have ebs : bs' ≤ nw := b1
    have e0 : nI bs' = nI bs := by rw [← b0]; exact hbs
    refine ⟨fun u => if u = t then nw else f u, fun u => if u = t then bs' else g u, bs' + 1, ?_, by omega, fun o ho hn p hp => ?_, fun u hu hs => ?_⟩
    · rw [d563]
      have : nI bs + nI 1 = nI bs' + nI 1 := by rw [e0]
      rw [n_add, n_add] at this
      exact this
    · rw [hC _ _ (by omega) (by omega) (by omega)]
      by_cases e : o = t
      · subst e
        exact bk o ho (by rw [hst]; decide) p hp
      · rw [hC _ _ (by omega) (by omega) (by omega)] at hn
        exact bk o ho hn p hp
    · have su : ∀ v, v < 6 → v ≠ t → C' (92 + 71 * v) 2 = C (92 + 71 * v) 2 ∧ C' (92 + 71 * v) 15 = C (92 + 71 * v) 15 ∧ D' 563 v = D 563 v := fun v hv hne => ⟨hC _ _ (by omega) (by omega) (by omega), hC _ _ (by omega) (by omega) (by omega), hD _ _ (by omega) (by omega) (by omega) (by omega) (by omega)⟩
      by_cases e : u = t
      · subst e
        refine ⟨by simpa using c15, by simp [d63, ← e0], by simp, by simp, fun v hv hne hsv => ?_⟩
        rw [(su v hv hne).1] at hsv
        obtain ⟨y1, y2, y3, y4, y5⟩ := b2 v hv hsv
        simp only [↓reduceIte, hne]
        omega
      · rw [(su u hu e).1] at hs
        obtain ⟨y1, y2, y3, y4, y5⟩ := b2 u hu hs
        simp only [e, ↓reduceIte]
        refine ⟨by rw [(su u hu e).2.1]; exact y1, by rw [(su u hu e).2.2]; exact y2, by omega, by omega, fun v hv hne hsv => ?_⟩
        by_cases e2 : v = t
        · subst e2
          simp only [↓reduceIte]
          omega
        · rw [(su v hv e2).1] at hsv
          simp only [e2, ↓reduceIte]
          exact y5 v hv hne hsv
  refine ⟨rfl, (show ¬ (0 : Int32) < 0 by decide), ?_⟩
  show Full C' ρ D' σ kp rc (2 * nw + 1) bw br
  refine Full_gen hF' ht (fun x i q1 q2 => hC x i (by omega) (by omega) (by omega)) (fun x i q1 q2 q3 => hD x i (by omega) ?_ ?_ ?_ ?_) (by rw [hD _ _ (by omega) (by omega) (by omega) (by omega) (by omega)]; exact frc) (Nat.le_refl _) (Rsd_fr fS (fun x i q1 q2 => hC x i (by omega) (by omega) (by omega)) (hD _ _ (by omega) (by omega) (by omega) (by omega) (by omega)) (fun x i q => hD x i (by omega) (by omega) (by omega) (by omega) (by omega))) (Rrc_fr fRc (fun x i q1 q2 => hC x i (by omega) (by omega) (by omega)) (hD _ _ (by omega) (by omega) (by omega) (by omega) (by omega)) (fun x i q1 q2 => hD x i (by omega) (by omega) (by omega) (by omega) (by omega))) hBt hT ?_ ?_ (Nat.le_refl _) fbw fbr
  · rintro ⟨rfl, q⟩
    have hw1 : wd x = 1 := by
      unfold wd
      rw [if_neg (by omega), if_neg (by omega), if_neg (by omega), if_neg (by omega), if_neg (by omega), if_neg (by omega)]
    exact q3 ⟨by omega, by omega, by rw [hw1]; omega, by rw [hw1]; omega⟩
  · rintro ⟨rfl, rfl⟩
    exact q3 ⟨by omega, by omega, by show t * 12 ≤ _; omega, by show _ < (t + 1) * 12; omega⟩
  · rintro ⟨q, rfl⟩
    have hw1 : wd x = 12 := by
      unfold wd
      rw [if_neg (by omega), if_neg (by omega), if_neg (by omega), if_neg (by omega), if_neg (by omega), if_pos (by omega)]
    exact q3 ⟨by omega, by omega, by rw [hw1]; omega, by rw [hw1]; omega⟩
  · rintro ⟨q, q4, q5⟩
    have hw1 : wd x = 312 := by
      unfold wd
      rw [if_neg (by omega), if_neg (by omega), if_neg (by omega), if_pos (by omega)]
    exact q3 ⟨by omega, by omega, by rw [hw1]; omega, by rw [hw1]; omega⟩
  · rw [e8, e8', wsum, wsum, wsum]
    have : popc 0 = 0 := by decide
    rw [show 92 + 71 * t + 8 + 6 * 0 = 92 + 71 * t + 8 from rfl, l6]
    omega
  · rw [e8, e8', rsum, rsum, rsum]
    have : rl C' t 0 = 0 := by
      unfold rl
      rw [show 92 + 71 * t + 8 + 6 * 0 = 92 + 71 * t + 8 from rfl, l3]; decide
    rw [this]
    omega
