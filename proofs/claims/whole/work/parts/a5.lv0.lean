set_option linter.unusedSimpArgs false
set_option linter.unusedVariables false
/-! ===== all levels are left ===== -/
/-- what is left then, places free -/
def LV0 (C D : ao_M) (ρ σ : ao_H) (kp rc t dp : Nat) (C4 : ao_M) (ρ4 : ao_H) (D4 : ao_M) (σ4 : ao_H) (kp' rc' : Nat) : Prop := (HxC C ρ C4 ρ4 ∧ HxD σ σ4 ∧
  (∀ x i, (x < 13 ∨ 18 < x) → ¬ (92 + 71 * t ≤ x ∧ x < 92 + 71 * t + 71) → ¬ PAc ρ x → (∀ z, ρ.2.2.2.1 = some z → x < z) → C4 x i = C x i) ∧
  (∀ x i, ¬ (x = 537 ∧ (i = 25 ∨ i = 26 ∨ i = 64)) → (x < 542 ∨ 546 < x) → ¬ (551 ≤ x ∧ x ≤ 584 ∧ t * wd x ≤ i ∧ i < (t + 1) * wd x) → ¬ PAd σ x → (∀ z, σ.2.2.2.1 = some z → x < z) → D4 x i = D x i)) ∧
  ((∀ i, i ≠ 2 → i ≠ 3 → i ≠ 5 → i ≠ 8 → i ≠ 11 → i ≠ 13 → C4 (92 + 71 * t) i = C (92 + 71 * t) i) ∧ C4 (92 + 71 * t) 5 = 0 ∧ C4 (92 + 71 * t) 13 = C (92 + 71 * t + 8) 10 ∧ C4 (92 + 71 * t) 11 = C (92 + 71 * t + 8) 11 ∧ (∀ k, k < 26 → C4 (92 + 71 * t + 6) k = C (92 + 71 * t + 8 + 5) k) ∧
  (∀ i, i ≠ 3 → i ≠ 4 → i ≠ 6 → C4 (92 + 71 * t + 8) i = C (92 + 71 * t + 8) i) ∧ C4 (92 + 71 * t + 8) 6 = 0 ∧ (∀ k, C4 (92 + 71 * t + 8 + 5) k = C (92 + 71 * t + 8 + 5) k) ∧ (∀ x i, 92 + 71 * t + 68 ≤ x → x ≤ 92 + 71 * t + 70 → C4 x i = C x i)) ∧
  ((∀ x, 559 ≤ x → x ≤ 564 → D4 x t = D x t) ∧ (∀ x j, 565 ≤ x ∧ x ≤ 574 ∨ x = 576 → j < 12 → D4 x (t * 12 + j) = D x (t * 12 + j)) ∧ (∀ p, p < 26 → D4 575 (t * 12 * 26 + p) = D 575 (t * 12 * 26 + p)) ∧ D4 555 t = 0 ∧ (∀ k, k < 26 → D4 553 (t * 26 + k) = D 575 (t * 12 * 26 + k)) ∧ (∀ p, p < 26 → D4 578 (t * 12 * 26 + p) = 0) ∧ D4 584 (t * 12) = 0) ∧
  (D4 537 64 = nI rc' ∧ rc ≤ rc' ∧ Rd C4 D4 rc' t 0 ∧ rc' + rl C4 t 0 ≤ rc + rsum C t dp) ∧ Rpl kp' C4 ρ4 D4 σ4 ∧ (∀ p, p < 26 → C4 16 p ≠ nI t ∧ (C4 16 p = C 16 p ∨ C4 16 p = -1)) ∧ ((D 537 27 = 3 ∨ D 537 27 = 4) → kp' + cntK C4 = kp + cntK C) ∧ (¬ (D 537 27 = 3 ∨ D 537 27 = 4) → kp' = kp)
set_option maxHeartbeats 2000000 in
theorem lv0 {C D : ao_M} {ρ σ : ao_H} {kp rc nw bw br t len kd a1 a2 a3 dp : Nat} {φ : Nat → Nat} {N : Ns} {H K : Nat → Nat} {l : List (Nat × Nat)} {x1 : Int32} (hF : FullP (fun u => u ≠ t) C ρ D σ kp rc nw bw br) (ht : t < 6) (hM : Md C ρ D rc t len kd a1 a2 a3 φ N H K l) (hdp : nl l = dp) (hx1 : x1 = nI 0 - 1 ∨ x1 = 0) :
    ∃ C1 C2 D1, hv (fun n => gX2_foldReads n (92 + 71 * t) x1 C ρ) (fun y => y = C1) ∧ hv (fun n => gX2_takeBack n 12 (92 + 71 * t) 0 C1 ρ) (fun y => y = C2) ∧ hv (fun n => gX12_takeBackTo n 537 (nI t) 0 1 D σ) (fun y => y = D1) ∧ (C2 (92 + 71 * t) 0 = nI t ∧ (∀ x j, 565 ≤ x ∧ x ≤ 574 → j < 12 → D1 x (t * 12 + j) = D x (t * 12 + j)) ∧ (∀ x, x = 556 ∨ x = 557 ∨ x = 558 → D1 x t = D x t)) ∧
      ∀ C3 D3 : ao_M, (∀ x i, ¬ (x = 92 + 71 * t ∧ (i = 2 ∨ i = 3 ∨ i = 8)) → C3 x i = C2 x i) → (∀ x i, ¬ (i = t ∧ (x = 551 ∨ x = 552 ∨ x = 556 ∨ x = 557 ∨ x = 558)) → D3 x i = D1 x i) → ∃ C4 ρ4 D4 σ4 kp' rc', hv (fun n => gX5_release n 13 (nI t) C3 ρ) (fun y => y = (C4, ρ4)) ∧ hv (fun n => gX12_free n 537 (nI t) D3 σ) (fun y => y = (D4, σ4)) ∧ LV0 C D ρ σ kp rc t dp C4 ρ4 D4 σ4 kp' rc' ∧ (∀ i, i = 2 ∨ i = 3 ∨ i = 8 → C4 (92 + 71 * t) i = C3 (92 + 71 * t) i) ∧ (∀ x, x = 551 ∨ x = 552 ∨ x = 556 ∨ x = 557 ∨ x = 558 → D4 x t = D3 x t) := by
  obtain ⟨⟨f1, f2, f3, f4⟩, f5, ⟨f6, f7, fX⟩, f8, f9, f10, f11, -, -, ⟨fe1, fe2, fe3⟩, fbw, fbr⟩ := hF
  obtain ⟨m1, m2, ⟨g1, g2, g3, g4, g5, g6, g7, g8, g9⟩, m4, m5, ⟨m6, m7, m8⟩, mI⟩ := hM
  have l1 := @nl_le l
  rw [hdp] at g9 mI m8 l1
  obtain ⟨I8, IL, IH⟩ := mI
  have hkp : kp ≤ 28000 := by
    by_cases q : D 537 27 = 3 ∨ D 537 27 = 4
    · have := fe1 q; omega
    · have := fe2 q; omega
  have hrc : rc + 260 < 2147483648 := by omega
  clear m1 m2 m4 m5 m6 fe1 fe2 fe3
  obtain ⟨Nf, C1, ef, Nt, D1, et, hf⟩ := fold_pair (l := 0) (dp := dp) f2 f4 ht (by omega) (by omega) x1 (by
    rcases hx1 with e | e
    · exact Or.inl e
    · exact Or.inr ⟨rfl, e⟩) I8 g9 (fun j hj => (IL j hj).2.2.2) f11 hrc
  rw [Nat.sub_zero] at hf
  have hf' := hf
  obtain ⟨rc1, a1', a2', a3', a4', a5', a6', a7', a8'⟩ := hf'
  rw [Nat.zero_add] at a1' a4' a5' a7' a8'
  have c1 : ∀ x i, (x < 92 + 71 * t + 8 ∨ 92 + 71 * t + 68 ≤ x) → C1 x i = C x i := fun x i hx => a5' x i (by
    rintro ⟨k, h1, h2⟩
    omega)
  have c1l : ∀ j o i, j < 10 → (o = 4 ∨ o = 5 ∨ o = 0 ∧ i ≠ 3 ∧ i ≠ 4) → C1 (92 + 71 * t + 8 + 6 * j + o) i = C (92 + 71 * t + 8 + 6 * j + o) i := fun j o i hj ho => a5' _ _ (by
    rintro ⟨q, h1, h2⟩
    omega)
  have ee : decide (C1 12 5 = 3 ∨ C1 12 5 = 4) = decide (D 537 27 = 3 ∨ D 537 27 = 4) := by rw [c1 _ _ (by omega), f6]
  have hW : ∀ j, 0 ≤ j → j < 0 + dp → Wr C D t j := fun k h1 h2 => (IL k (by omega)).2.2.1
  generalize hee : decide (D 537 27 = 3 ∨ D 537 27 = 4) = e at hf ee a6'
  have hRp := Rpl_leave ht (by omega) f5 hW hf
  have hb : hv (fun n => gX2_takeBack n 12 (92 + 71 * t) 0 C1 ρ) (fun y => y = cTB e t 0 dp C1) := by
    have := c_back (k := 0) (dp := dp) (Q := fun y => y = cTB e t 0 dp C1) f1 f2 ht (by omega) (by omega) C1 (by rw [c1 _ _ (by omega)]; exact I8) (by rw [ee, Nat.sub_zero])
    exact this
  have cT : ∀ x i, x ≠ 14 → (i ≠ 6 ∨ x < 92 + 71 * t + 8 ∨ 92 + 71 * t + 8 + 6 * dp ≤ x ∨ (x - (92 + 71 * t + 8)) % 6 ≠ 0) → x ≠ 92 + 71 * t + 6 → (x ≠ 92 + 71 * t ∨ i ≠ 13 ∧ i ≠ 11 ∧ i ≠ 5) → cTB e t 0 dp C1 x i = C1 x i := fun x i q1 q2 q3 q4 => cTB_n q1 (by omega) q3 q4
  have cTa := @cTB_a e t 0 dp C1
  have cT6 : cTB e t 0 dp C1 (92 + 71 * t + 8 + 6 * 0) 6 = 0 := cTB_6 (Nat.le_refl _) (by omega)
  have cTg : ∀ i, i < 26 → cTB e t 0 dp C1 (92 + 71 * t + 6) i = C1 (92 + 71 * t + 8 + 6 * 0 + 5) i := fun i hi => cTB_g hi
  rw [Nat.mul_zero, Nat.add_zero] at cTa cT6 cTg
  have dT : ∀ x i, x ≠ 577 → x ≠ 579 → x ≠ 580 → x ≠ 581 → ¬ (x = 537 ∧ i = 64) → (x ≠ 542 ∧ x ≠ 555 ∧ x ≠ 553) → (x ≠ 578 ∨ i < t * 12 * 26 ∨ (t * 12 + dp) * 26 ≤ i) → (x ≠ 584 ∨ i < t * 12 ∨ t * 12 + dp ≤ i) → D1 x i = D x i := fun x i q1 q2 q3 q4 q5 q6 q7 q8 => by
    rw [a6' x i q1 q2 q3 q4 q5]; exact dTB_n q6 (by omega) (by omega)
  refine ⟨C1, cTB e t 0 dp C1, D1, ⟨Nf, _, ef, rfl⟩, hb, ⟨Nt, _, et, rfl⟩, ⟨?_, fun x j q1 q2 => dT _ _ (by omega) (by omega) (by omega) (by omega) (by omega) (by omega) (by omega) (by omega), fun x q => dT _ _ (by omega) (by omega) (by omega) (by omega) (by omega) (by omega) (by omega) (by omega)⟩, ?_⟩
  · rw [cT _ _ (by omega) (by omega) (by omega) (by omega), c1 _ _ (by omega)]; exact g3
  intro C3 D3 hC3 hD3
  have r3 : Rpl kp C3 ρ D3 σ := Rpl_cell (k := 0) hRp (fun x i hx => hC3 x i (by omega)) (fun x i hx => hD3 x i (by omega))
  have d27 : D3 537 27 = D 537 27 := by rw [hD3 _ _ (by omega)]; exact dT _ _ (by omega) (by omega) (by omega) (by omega) (by omega) (by omega) (by omega) (by omega)
  have c316 : ∀ p, C3 16 p = C 16 p := fun p => by rw [hC3 _ _ (by omega), cT _ _ (by omega) (by omega) (by omega) (by omega), c1 _ _ (by omega)]
  obtain ⟨Nc, ⟨C4, ρ4⟩, ec, Nd, ⟨D4, σ4⟩, ed, s1, s2, s3, s4⟩ := rel_pair ht f1 f4 (by omega) r3 (by
    rw [d27]
    intro q p hp
    rw [c316 p]; exact f8 q p hp)
  dsimp only at s1 s2 s3 s4
  have zc := sh_zc f5
  have zd := sh_zd f5
  have npc : ∀ x, (x < 19 ∨ 21 < x) ∧ x < 599 → ¬ PAc ρ x := fun x hx => Rpl_nc f5 hx
  have npd : ∀ x, (x < 547 ∨ 549 < x) ∧ x < 599 → ¬ PAd σ x := fun x hx => Rpl_nd f5 hx
  have c4 : ∀ x i, (x < 13 ∨ 22 ≤ x ∧ x < 599) → C4 x i = C3 x i := fun x i h1 => s2.2 x i (by omega) (npc x (by omega)) (fun z hz => by have := zc z hz; omega)
  have d4 : ∀ x i, x < 599 → ¬ (x = 537 ∧ (i = 25 ∨ i = 26)) → (x < 542 ∨ 549 < x) → D4 x i = D3 x i := fun x i h0 h1 h2 => s3.2 x i h1 (by omega) (npd x (by omega)) (fun z hz => by have := zd z hz; omega)
  refine ⟨C4, ρ4, D4, σ4, kp + cntT C3 t 0 26, rc1, ⟨Nc, _, ec, rfl⟩, ⟨Nd, _, ed, rfl⟩, ?_, fun i q => c4 _ _ (by omega), fun x q => d4 _ _ (by omega) (by omega) (by omega)⟩
  clear ec ed ef et hb f1 f2 f3 f4 IH IL
  -- cells of the thread
  have tC : ∀ x i, 92 + 71 * t ≤ x → x < 92 + 71 * t + 71 → ¬ (x = 92 + 71 * t ∧ (i = 2 ∨ i = 3 ∨ i = 8)) → C4 x i = cTB e t 0 dp C1 x i := fun x i q1 q2 q3 => by rw [c4 x i (by omega), hC3 x i (by omega)]
  have tD : ∀ x i, 550 ≤ x → x ≤ 584 → ¬ (i = t ∧ (x = 551 ∨ x = 552 ∨ x = 556 ∨ x = 557 ∨ x = 558)) → D4 x i = D1 x i := fun x i q1 q2 q3 => by rw [d4 x i (by omega) (by omega) (by omega), hD3 x i q3]
  have hwd : ∀ x i w, wd x = w → 551 ≤ x → x ≤ 584 → ¬ (551 ≤ x ∧ x ≤ 584 ∧ t * wd x ≤ i ∧ i < (t + 1) * wd x) → ¬ (t * w ≤ i ∧ i < (t + 1) * w) := fun x i w hw h1 h2 h3 h4 => h3 ⟨h1, h2, by rw [hw]; exact h4.1, by rw [hw]; exact h4.2⟩
  refine ⟨⟨?_, s3.1, fun x i q1 q2 q3 q4 => ?_, fun x i q1 q2 q3 q4 q5 => ?_⟩, ⟨fun i q1 q2 q3 q4 q5 q6 => ?_, ?_, ?_, ?_, fun k hk => ?_, fun i q1 q2 q3 => ?_, ?_, fun k => ?_, fun x i q1 q2 => ?_⟩, ⟨fun x q1 q2 => ?_, fun x j q1 q2 => ?_, fun p hp => ?_, ?_, fun k hk => ?_, fun p hp => ?_, ?_⟩, ⟨?_, a3', ?_, ?_⟩, s1, fun p hp => ?_, fun q => ?_, fun q => ?_⟩
  · obtain ⟨y, y', b1, b2, b3, b4, b5, b6, b8, b9⟩ := s2.1
    have er : rmC C3 = rmC C := by
      unfold rmC
      rw [hC3 _ _ (by omega), cT _ _ (by omega) (by omega) (by omega) (by omega), c1 _ _ (by omega)]
    rw [er] at b8 b9
    exact ⟨y, y', b1, b2, b3, b4, b5, b6, b8, b9⟩
  · rw [s2.2 x i (by omega) q3 q4, hC3 x i (by omega), cT x i (by omega) (by omega) (by omega) (by omega), c1 x i (by omega)]
  · have w1 : x = 551 ∨ x = 552 ∨ x = 556 ∨ x = 557 ∨ x = 558 ∨ x = 555 → i ≠ t := fun hx e0 => hwd x i 1 (by
      unfold wd
      rw [if_neg (by omega), if_neg (by omega), if_neg (by omega), if_neg (by omega), if_neg (by omega), if_neg (by omega)]) (by omega) (by omega) q3 (by omega)
    have w12 : x = 584 → ¬ (t * 12 ≤ i ∧ i < (t + 1) * 12) := fun hx => hwd x i 12 (by subst hx; rfl) (by omega) (by omega) q3
    have w26 : x = 553 → ¬ (t * 26 ≤ i ∧ i < (t + 1) * 26) := fun hx => hwd x i 26 (by subst hx; rfl) (by omega) (by omega) q3
    have w312 : 577 ≤ x ∧ x ≤ 582 → ¬ (t * 312 ≤ i ∧ i < (t + 1) * 312) := fun hx => hwd x i 312 (by
      unfold wd
      rw [if_neg (by omega), if_neg (by omega), if_neg (by omega), if_pos (by omega)]) (by omega) (by omega) q3
    rw [s3.2 x i (by omega) (by omega) q4 q5, hD3 x i (by
      rintro ⟨y1, y2⟩
      exact w1 (by omega) y1)]
    by_cases v : x = 577 ∨ x = 579 ∨ x = 580 ∨ x = 581
    · have := w312 (by omega)
      exact a7' x i v (by omega)
    · rw [a6' x i (by omega) (by omega) (by omega) (by omega) (by omega)]
      by_cases v1 : x = 555
      · exact dTB_v (Or.inr (Or.inl ⟨v1, w1 (by omega)⟩))
      · by_cases v2 : x = 553
        · have := w26 v2
          exact dTB_v (Or.inr (Or.inr ⟨v2, by omega⟩))
        · refine dTB_n (by omega) ?_ ?_
          · by_cases v3 : x = 578
            · have := w312 (by omega); omega
            · exact Or.inl v3
          · by_cases v3 : x = 584
            · have := w12 v3; omega
            · exact Or.inl v3
  · rw [tC _ _ (by omega) (by omega) (by omega), cT _ _ (by omega) (by omega) (by omega) (by omega), c1 _ _ (by omega)]
  · rw [tC _ _ (by omega) (by omega) (by omega)]; exact cTa.2.2
  · rw [tC _ _ (by omega) (by omega) (by omega), cTa.1]; exact c1l 0 0 10 (by omega) (by omega)
  · rw [tC _ _ (by omega) (by omega) (by omega), cTa.2.1]; exact c1l 0 0 11 (by omega) (by omega)
  · rw [tC _ _ (by omega) (by omega) (by omega), cTg k hk]; exact c1l 0 5 k (by omega) (by omega)
  · rw [tC _ _ (by omega) (by omega) (by omega), cT _ _ (by omega) (by omega) (by omega) (by omega)]; exact c1l 0 0 i (by omega) (by omega)
  · rw [tC _ _ (by omega) (by omega) (by omega)]; exact cT6
  · rw [tC _ _ (by omega) (by omega) (by omega), cT _ _ (by omega) (by omega) (by omega) (by omega)]; exact c1l 0 5 k (by omega) (by omega)
  · rw [tC _ _ (by omega) (by omega) (by omega), cT _ _ (by omega) (by omega) (by omega) (by omega), c1 _ _ (by omega)]
  · rw [tD _ _ (by omega) (by omega) (by omega)]; exact dT _ _ (by omega) (by omega) (by omega) (by omega) (by omega) (by omega) (by omega) (by omega)
  · rw [tD _ _ (by omega) (by omega) (by omega)]; exact dT _ _ (by omega) (by omega) (by omega) (by omega) (by omega) (by omega) (by omega) (by omega)
  · rw [tD _ _ (by omega) (by omega) (by omega)]; exact dT _ _ (by omega) (by omega) (by omega) (by omega) (by omega) (by omega) (by omega) (by omega)
  · rw [tD _ _ (by omega) (by omega) (by omega), a6' _ _ (by omega) (by omega) (by omega) (by omega) (by omega), dTB_55]
  · rw [tD _ _ (by omega) (by omega) (by omega), a6' _ _ (by omega) (by omega) (by omega) (by omega) (by omega), dTB_53 hk (by omega), Nat.add_zero]
  · rw [tD _ _ (by omega) (by omega) (by omega), a6' _ _ (by omega) (by omega) (by omega) (by omega) (by omega)]
    have := @dTB_78 e t 0 dp 0 p D (Nat.le_refl _) (by omega) hp
    rw [Nat.add_zero] at this
    exact this
  · rw [tD _ _ (by omega) (by omega) (by omega), a6' _ _ (by omega) (by omega) (by omega) (by omega) (by omega)]
    have := @dTB_84 e t 0 dp 0 D (Nat.le_refl _) (by omega)
    rw [Nat.add_zero] at this
    exact this
  · rw [d4 _ _ (by omega) (by omega) (by omega), hD3 _ _ (by omega)]; exact a2'
  · obtain ⟨ps, vs, ws, r1, r2⟩ := a1' 0 (by omega)
    rw [Nat.mul_zero, Nat.add_zero] at r1
    have e0 : ∀ i, i ≠ 6 → C4 (92 + 71 * t + 8) i = C1 (92 + 71 * t + 8) i := fun i hi => by rw [tC _ _ (by omega) (by omega) (by omega), cT _ _ (by omega) (by omega) (by omega) (by omega)]
    refine ⟨ps, vs, ws, ?_, RdD_mv r2 (Nat.le_refl _) (fun p hp => ⟨tD _ _ (by omega) (by omega) (by omega), tD _ _ (by omega) (by omega) (by omega), tD _ _ (by omega) (by omega) (by omega), tD _ _ (by omega) (by omega) (by omega)⟩)⟩
    rw [Nat.mul_zero, Nat.add_zero]
    exact RdC_mv r1 (e0 _ (by omega)) (e0 _ (by omega)) (fun i => ⟨by rw [tC _ _ (by omega) (by omega) (by omega), cT _ _ (by omega) (by omega) (by omega) (by omega)], by rw [tC _ _ (by omega) (by omega) (by omega), cT _ _ (by omega) (by omega) (by omega) (by omega)], by rw [tC _ _ (by omega) (by omega) (by omega), cT _ _ (by omega) (by omega) (by omega) (by omega)]⟩)
  · have e0 : rl C4 t 0 = rl C1 t 0 := by
      unfold rl
      rw [tC _ _ (by omega) (by omega) (by omega), cT _ _ (by omega) (by omega) (by omega) (by omega)]
    have e1 := @rsum_le C1 t (dp - 1) 1
    rw [show 1 + (dp - 1) = dp by omega, rsum, rsum] at e1
    rw [e0]
    omega
  · have hn1 := n_neg (n := t) (by omega)
    have := (s4 p hp).2
    rw [c316 p] at this
    by_cases e' : C 16 p = nI t
    · rw [if_pos ⟨by omega, e'⟩] at this
      rw [this]
      refine ⟨fun q => ?_, Or.inr rfl⟩
      rw [← q] at hn1
      exact absurd rfl (by rw [hn1]; exact id)
    · rw [if_neg (fun x => e' x.2)] at this
      rw [this]
      exact ⟨e', Or.inl rfl⟩
  · have h1 := cntK_t (C := C3) (C' := C4) (fun p hp => by
      rw [(s4 p hp).2]
      by_cases e : C3 16 p = nI t
      · rw [if_pos ⟨by omega, e⟩, if_pos e]
      · rw [if_neg (fun x => e x.2), if_neg e]) ht
    have h2 := cntK_e (C := C) (C' := C3) (fun p _ => c316 p)
    omega
  · have : cntT C3 t 0 26 = 0 := cntT_0 (fun p _ hp h => by
      rw [c316 p, f8 q p (by omega)] at h
      have := n_neg (n := t) (by omega)
      rw [← h] at this
      exact absurd rfl (by rw [this]; exact id))
    rw [this, Nat.add_zero]
