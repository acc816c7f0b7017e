set_option linter.unusedSimpArgs false
set_option linter.unusedVariables false
section Sta6
variable {C D : ao_M} {ρ σ : ao_H} {kp rc nw bw br t s len kd a1 a2 a3 a : Nat} {φ : Nat → Nat} {N : Ns} {H K : Nat → Nat}
/-- all levels were left: the whole again -/
theorem lo_fin {C4 D4 C5 D5 : ao_M} {ρ4 σ4 : ao_H} {kp' rc' dp : Nat} (hF : FullP (fun u => u ≠ t) C ρ D σ kp rc nw bw br) (ht : t < 6) (hdp : dpC C t = dp) (hL : LV0 C D ρ σ kp rc t dp C4 ρ4 D4 σ4 kp' rc') (hC5 : ∀ x i, ¬ (92 + 71 * t ≤ x ∧ x < 92 + 71 * t + 71) → C5 x i = C4 x i) (hD5 : ∀ x i, ¬ (551 ≤ x ∧ x ≤ 584 ∧ t * wd x ≤ i ∧ i < (t + 1) * wd x) → D5 x i = D4 x i)
    (hT : Thr C5 ρ4 D5 rc' t) (hB : Bth C5 D5 ((nw + 1) / 2)) (hw : wsum C5 t (dpC C5 t) = 0) (hr : rsum C5 t (dpC C5 t) ≤ rl C4 t 0) : Full C5 ρ4 D5 σ4 kp' rc' nw bw br := by
  have hF' := hF
  obtain ⟨-, f5, -, f8, f9, f10, f11, -, -, -, f15, f16⟩ := hF
  obtain ⟨⟨l1, l2, l3, l4⟩, -, -, ⟨l5, l6, -, l7⟩, l8, l9, l10, l11⟩ := hL
  have zc := sh_zc f5
  have zd := sh_zd f5
  have npc : ∀ x, (x < 19 ∨ 21 < x) ∧ x < 599 → ¬ PAc ρ x := fun x hx => Rpl_nc f5 hx
  have npd : ∀ x, (x < 547 ∨ 549 < x) ∧ x < 599 → ¬ PAd σ x := fun x hx => Rpl_nd f5 hx
  have cl : ∀ x i, (x < 13 ∨ 22 ≤ x ∧ x < 599) → ¬ (92 + 71 * t ≤ x ∧ x < 92 + 71 * t + 71) → C5 x i = C x i := fun x i h1 h2 => by
    rw [hC5 x i h2]; exact l3 x i (by omega) h2 (npc x (by omega)) (fun z hz => by have := zc z hz; omega)
  have dl : ∀ x i, x < 599 → ¬ (x = 537 ∧ (i = 25 ∨ i = 26 ∨ i = 64)) → (x < 542 ∨ 549 < x) → ¬ (551 ≤ x ∧ x ≤ 584 ∧ t * wd x ≤ i ∧ i < (t + 1) * wd x) → D5 x i = D x i := fun x i h0 h1 h2 h3 => by
    rw [hD5 x i h3]; exact l4 x i h1 (by omega) h3 (npd x (by omega)) (fun z hz => by have := zd z hz; omega)
  have hX : HxC C ρ C5 ρ4 := by
    obtain ⟨y, y', b1, b2, b3, b4, b5, b6, b8, b9⟩ := l1
    have er : rmC C5 = rmC C4 := by
      unfold rmC
      rw [hC5 _ _ (by omega)]
    exact ⟨y, y', b1, b2, b3, b4, b5, b6, by rw [er]; exact b8, by rw [er]; exact b9⟩
  have c16 : ∀ p, C5 16 p = C4 16 p := fun p => hC5 _ _ (by omega)
  refine P_Full (P_pl hF' ht hX l2 (fun x i h1 h2 h3 h4 h5 => by rw [hC5 x i h2]; exact l3 x i h1 h2 h4 h5) (fun x i h1 h2 h3 h4 h5 h6 => by rw [hD5 x i h4]; exact l4 x i (by omega) h2 h4 h5 h6) (Rpl_cell (k := 0) l8 (fun x i hx => hC5 x i (by omega)) (fun x i hx => hD5 x i (by omega))) (fun q p hp => ?_) (by rw [hD5 _ _ (by omega)]; exact l5) l6 (Rsd_fr f9 (fun x i q1 q2 => cl x i (by omega) (by omega)) (dl _ _ (by omega) (by omega) (by omega) (by omega)) (fun x i q => dl x i (by omega) (by omega) (by omega) (by omega))) (Rrc_fr f10 (fun x i q1 q2 => cl x i (by omega) (by omega)) (dl _ _ (by omega) (by omega) (by omega) (by omega)) (fun x i q1 q2 => dl x i (by omega) (by omega) (by omega) (by omega))) hB (dpC_le hT) (fun _ => hT) (fun q => ?_) (fun q => ?_) ?_ f15 f16) ht hT
  · rw [c16 p]
    rcases (l9 p hp).2 with e | e
    · rw [e]; exact f8 q p hp
    · exact e
  · have := l10 q
    rw [cntK_e (C := C4) (C' := C5) (fun p _ => c16 p)]
    omega
  · rw [hw, l11 q]
    omega
  · rw [hdp]
    omega
/-- the whole but for a thread that is no longer among those that began -/
theorem lo_B {C4 D4 C5 D5 : ao_M} {ρ4 σ4 : ao_H} {kp' rc' dp : Nat} (hF : FullP (fun u => u ≠ t) C ρ D σ kp rc nw bw br) (ht : t < 6) (hL : LV0 C D ρ σ kp rc t dp C4 ρ4 D4 σ4 kp' rc') (hC5 : ∀ x i, ¬ (92 + 71 * t ≤ x ∧ x < 92 + 71 * t + 71) → C5 x i = C4 x i) (hD5 : ∀ x i, ¬ (551 ≤ x ∧ x ≤ 584 ∧ t * wd x ≤ i ∧ i < (t + 1) * wd x) → D5 x i = D4 x i) (hn : ¬ (C5 (92 + 71 * t) 2 = 2 ∨ C5 (92 + 71 * t) 2 = 3)) : Bth C5 D5 ((nw + 1) / 2) := by
  obtain ⟨-, f5, -, -, -, -, -, -, f13, -⟩ := hF
  obtain ⟨⟨l1, l2, l3, l4⟩, -, -, -, -, l9, -, -⟩ := hL
  have zc := sh_zc f5
  have zd := sh_zd f5
  have npc : ∀ x, (x < 19 ∨ 21 < x) ∧ x < 599 → ¬ PAc ρ x := fun x hx => Rpl_nc f5 hx
  have npd : ∀ x, (x < 547 ∨ 549 < x) ∧ x < 599 → ¬ PAd σ x := fun x hx => Rpl_nd f5 hx
  have cl : ∀ x i, (x < 13 ∨ 22 ≤ x ∧ x < 599) → ¬ (92 + 71 * t ≤ x ∧ x < 92 + 71 * t + 71) → C5 x i = C x i := fun x i h1 h2 => by
    rw [hC5 x i h2]; exact l3 x i (by omega) h2 (npc x (by omega)) (fun z hz => by have := zc z hz; omega)
  have dl : ∀ x i, x < 599 → ¬ (x = 537 ∧ (i = 25 ∨ i = 26 ∨ i = 64)) → (x < 542 ∨ 549 < x) → ¬ (551 ≤ x ∧ x ≤ 584 ∧ t * wd x ≤ i ∧ i < (t + 1) * wd x) → D5 x i = D x i := fun x i h0 h1 h2 h3 => by
    rw [hD5 x i h3]; exact l4 x i h1 (by omega) h3 (npd x (by omega)) (fun z hz => by have := zd z hz; omega)
  refine Bth_out f13 ht (dl _ _ (by omega) (by omega) (by omega) (by omega)) (fun p hp => ?_) (fun u hu hne => ⟨cl _ _ (by omega) (by omega), cl _ _ (by omega) (by omega), dl _ _ (by omega) (by omega) (by omega) ?_⟩) hn
  · rw [hC5 _ _ (by omega)]; exact l9 p hp
  · rintro ⟨-, -, h1, h2⟩
    have hw1 : wd 563 = 1 := rfl
    rw [hw1] at h1 h2
    omega
/-- the code stays -/
theorem lo_cat {C4 D4 C5 D5 : ao_M} {ρ4 σ4 : ao_H} {kp' rc' dp : Nat} {l : List (Nat × Nat)} (hF : FullP (fun u => u ≠ t) C ρ D σ kp rc nw bw br) (ht : t < 6) (hM : Md C ρ D rc t len kd a1 a2 a3 φ N H K l) (hL : LV0 C D ρ σ kp rc t dp C4 ρ4 D4 σ4 kp' rc') (hC5 : ∀ x i, ¬ (92 + 71 * t ≤ x ∧ x < 92 + 71 * t + 71) → C5 x i = C4 x i) (hD5 : ∀ x i, ¬ (551 ≤ x ∧ x ≤ 584 ∧ t * wd x ≤ i ∧ i < (t + 1) * wd x) → D5 x i = D4 x i) : Cat C5 ρ4 t len kd a1 a2 a3 ∧ C5 a2 = C a2 ∧ C5 a3 = C a3 ∧ dcd D5 t = dcd D t ∧ Cok (C5 a1) (C5 a2) (C5 a3) (dcd D5 t) len φ N H K ∧ C5 a1 = C a1 := by
  obtain ⟨-, f5, -⟩ := hF
  obtain ⟨⟨l1, l2, l3, l4⟩, -⟩ := hL
  have zc := sh_zc f5
  have zd := sh_zd f5
  obtain ⟨y, y', b1, b2, b3, b4, b5, b6, b8, b9⟩ := l1
  have er : rmC C5 = rmC C4 := by
    unfold rmC
    rw [hC5 _ _ (by omega)]
  obtain ⟨k1, k2, k3, k4⟩ := Cat_fr hM.1 ht (C' := C5) (ρ' := ρ4) ⟨y, y', b1, b2, b3, b4, b5, b6, by rw [er]; exact b8, by rw [er]; exact b9⟩ zc (fun x i hx h1 h2 => by rw [hC5 x i (by omega)]; exact l3 x i (by omega) (by omega) h1 h2)
  have ed : dcd D5 t = dcd D t := dcd_eq (fun i => by
    rw [hD5 _ _ (by omega)]; exact l4 _ _ (by omega) (by omega) (by omega) (Rpl_nd f5 (by omega)) (fun z hz => by have := zd z hz; omega))
  exact ⟨k1, k3, k4, ed, by rw [k2, k3, k4, ed]; exact hM.2.1, k2⟩
/-- entries of nests around the block stay -/
theorem lo_ent {C4 D4 C5 D5 : ao_M} {ρ4 σ4 : ao_H} {kp' rc' dp : Nat} {x : Nat × Nat} (ht : t < 6) (hL : LV0 C D ρ σ kp rc t dp C4 ρ4 D4 σ4 kp' rc') (h : Ent C D t (C a2) (C a3) len φ N x) (n1 : x.1 = 0 → nl (N x.2) = 0) (n2 : ns (N x.2) ≤ 10) (n3 : nt (N x.2) ≤ 10) (hC : C5 (92 + 71 * t + 8) 8 = C4 (92 + 71 * t + 8) 8 ∧ C5 (92 + 71 * t + 8) 11 = C4 (92 + 71 * t + 8) 11 ∧ ∀ y i, 92 + 71 * t + 68 ≤ y → y ≤ 92 + 71 * t + 70 → C5 y i = C4 y i) (hD : ∀ y j, 565 ≤ y → y ≤ 574 → j < 12 → D5 y (t * 12 + j) = D4 y (t * 12 + j)) : Ent C5 D5 t (C a2) (C a3) len φ N x := by
  obtain ⟨-, ⟨-, -, -, -, -, c1, -, -, c2⟩, ⟨-, d1, -⟩, -⟩ := hL
  refine Ent_mv h (fun e0 => ?_) (fun _ => ?_) (fun _ => ⟨?_, ?_, fun y q1 q2 => ?_⟩)
  · have := n1 e0
    rw [this, Nat.mul_zero, Nat.add_zero]
    refine ⟨by rw [hC.1, c1 _ (by omega) (by omega) (by omega)], by rw [hC.2.1, c1 _ (by omega) (by omega) (by omega)], fun y q1 q2 => ?_⟩
    have e1 := hD y 0 (by omega) (by omega) (by omega)
    have e2 := d1 y 0 (by omega) (by omega)
    rw [e1, e2]
  · rw [hD _ _ (by omega) (by omega) (by omega), d1 _ _ (by omega) (by omega)]
  · rw [hC.2.2 _ _ (by omega) (by omega), c2 _ _ (by omega) (by omega)]
  · rw [hC.2.2 _ _ (by omega) (by omega), c2 _ _ (by omega) (by omega)]
  · rw [hD _ _ (by omega) (by omega) (by omega), d1 _ _ (by omega) (by omega)]
end Sta6
