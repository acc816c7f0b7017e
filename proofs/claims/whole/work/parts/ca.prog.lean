set_option linter.unusedSimpArgs false
set_option linter.unusedVariables false
/-! ===== a thread gets a program ===== -/
section Cca
variable {C D C' D' : ao_M} {ρ σ ρ' : ao_H}
theorem row_ne {u t w i : Nat} (h : u ≠ t) (a1 : u * w ≤ i) (a2 : i < (u + 1) * w) (b1 : t * w ≤ i) (b2 : i < (t + 1) * w) : False := by
  rcases Nat.lt_or_gt_of_ne h with q | q
  · have := Nat.mul_le_mul_right w (show u + 1 ≤ t from q)
    omega
  · have := Nat.mul_le_mul_right w (show t + 1 ≤ u from q)
    omega
theorem sum6_le {f g : Nat → Nat} (h : ∀ t, t < 6 → f t ≤ g t) : sum6 f ≤ sum6 g := by
  unfold sum6
  have := h 0 (by omega)
  have := h 1 (by omega)
  have := h 2 (by omega)
  have := h 3 (by omega)
  have := h 4 (by omega)
  have := h 5 (by omega)
  omega
/-- what stays of the heap when thread t gets a program -/
def Hpr (t z z' : Nat) (ρ ρ' : ao_H) : Prop := ρ.2.2.2.1 = some z ∧ ρ'.2.2.2.1 = some z' ∧ z ≤ z' ∧ 599 ≤ z ∧ (∀ x, x < z → ρ'.2.1 x = ρ.2.1 x ∧ ρ'.2.2.1 x = ρ.2.2.1 x) ∧ ∀ x k, x < z → ¬ (x = 3 ∧ k = 0) → ¬ (x = 92 + 71 * t ∧ k = 1) → ρ'.1 x k = ρ.1 x k
theorem Hpr_A {t z z' : Nat} (h : Hpr t z z' ρ ρ') (ht : t < 6) : (ShA ρ → ShA ρ') ∧ (ShB ρ → ShB ρ') ∧ (ShG ρ → ShG ρ') := by
  obtain ⟨-, -, -, h9, hk, hf⟩ := h
  have hf' : ∀ x k, x < 537 → ¬ (x = 13 ∧ 6 ≤ k ∧ k ≤ 8 ∨ x = 3 ∧ k = 0 ∨ k = 1 ∧ 92 ≤ x ∧ x < 518 ∧ (x - 92) % 71 = 0) → ρ'.1 x k = ρ.1 x k := fun x k q1 q2 => hf x k (by omega) (by omega) (by omega)
  exact ⟨fun a => ShA_own (ρ := ρ) (fun x hx => (hk x (by omega)).1) (fun x hx => (hk x (by omega)).2) hf' a, fun a => ShB_own (ρ := ρ) (fun x hx => (hk x (by omega)).1) (fun x hx => (hk x (by omega)).2) hf' a, fun a => ShG_own (ρ := ρ) (fun x hx => (hk x (by omega)).1) (fun x hx => (hk x (by omega)).2) hf' a⟩
theorem Hpr_P {t z z' x : Nat} (h : Hpr t z z' ρ ρ') (ht : t < 6) : PAc ρ' x ↔ PAc ρ x := by
  obtain ⟨-, -, -, h9, hk, hf⟩ := h
  unfold PAc
  rw [hf 13 6 (by omega) (by omega) (by omega), hf 13 7 (by omega) (by omega) (by omega), hf 13 8 (by omega) (by omega) (by omega)]
theorem Hpr_cat {t z z' u len kd a1 a2 a3 : Nat} (h : Hpr t z z' ρ ρ') (ht : t < 6) (hu : u < 6) (hne : u ≠ t) (hC : ∀ x i, 599 ≤ x → x < z → C' x i = C x i) (q : Cat C ρ u len kd a1 a2 a3) : Cat C' ρ' u len kd a1 a2 a3 ∧ C' a1 = C a1 ∧ C' a2 = C a2 ∧ C' a3 = C a3 := by
  have hP : ∀ x, ¬ PAc ρ x → ¬ PAc ρ' x := fun x q => by rw [Hpr_P h ht]; exact q
  obtain ⟨hz, hz', hle, h9, hk, hf⟩ := h
  obtain ⟨b1, b2, b3, b4, b5, b6, b7, b8, b9, b10, b11, b12, b13, b14, b15, b16, b17, b18, b19, b20, b21, y, b22, b23, b24, b25, b26⟩ := q
  obtain rfl : z = y := by rw [hz] at b22; exact Option.some.inj b22
  refine ⟨⟨by rw [hf _ _ (by omega) (by omega) (by omega)]; exact b1, by rw [(hk _ b23).1]; exact b2, by rw [hf _ _ b23 (by omega) (by omega)]; exact b3, by rw [hf _ _ b23 (by omega) (by omega)]; exact b4, by rw [hf _ _ b23 (by omega) (by omega)]; exact b5, by rw [(hk _ b24).1]; exact b6, by rw [(hk _ b25).1]; exact b7, by rw [(hk _ b26).1]; exact b8, by rw [(hk _ b24).2]; exact b9, by rw [(hk _ b25).2]; exact b10, by rw [(hk _ b26).2]; exact b11, by rw [hC _ _ b14 b23]; exact b12, by rw [hC _ _ b14 b23]; exact b13, b14, b15, b16, b17, hP _ b18, hP _ b19, hP _ b20, hP _ b21, z', hz', by omega, by omega, by omega, by omega⟩, funext fun i => hC _ _ b15 b24, funext fun i => hC _ _ b16 b25, funext fun i => hC _ _ b17 b26⟩
theorem Hpr_pl {t z z' k : Nat} {f g hh : Nat → Int32} (h : Hpr t z z' ρ ρ') (ht : t < 6) (hC : ∀ x i, (13 ≤ x ∧ x ≤ 21 ∨ 599 ≤ x) → x < z → C' x i = C x i) (p : PLc C ρ k f g hh) : PLc C' ρ' k f g hh := by
  obtain ⟨hz, hz', hle, h9, hk, hf⟩ := h
  obtain ⟨a, b, c, rm, y, p1, p2, p3, p4, p5, p6, p7, p8, p9, p10, p11, p12, p13, p14, p15, p16, p17, p18, p19, p20, p21, p22, p23, p24, p25, p26⟩ := p
  obtain rfl : z = y := by rw [hz] at p21; exact Option.some.inj p21
  refine ⟨a, b, c, rm, z', by rw [hf _ _ (by omega) (by omega) (by omega)]; exact p1, by rw [hf _ _ (by omega) (by omega) (by omega)]; exact p2, by rw [hf _ _ (by omega) (by omega) (by omega)]; exact p3, by rw [(hk _ p23).1]; exact p4, by rw [(hk _ p24).1]; exact p5, by rw [(hk _ p25).1]; exact p6, by rw [(hk _ p23).2]; exact p7, by rw [(hk _ p24).2]; exact p8, by rw [(hk _ p25).2]; exact p9, by rw [hC _ _ (by omega) (by omega)]; exact p10, by rw [hC _ _ (by omega) (by omega)]; exact p11, p12, p13, p14, p15, p16, p17, p18, p19, p20, hz', by omega, by omega, by omega, by omega, fun i hi => ?_⟩
  rw [hC a i (by omega) p23, hC b i (by omega) p24, hC c i (by omega) p25]
  exact p26 i hi
set_option maxHeartbeats 8000000 in
/-- all of it, when thread t is as new with a program -/
theorem Full_prog {kp rc n bw br t z z' : Nat} (h : Full (tk C) ρ D σ kp rc (2 * n) bw br) (ht : t < 6) (hs2 : C (92 + 71 * t) 2 ≠ 2) (hH : Hpr t z z' ρ ρ')
    (hC : ∀ x i, 12 ≤ x → x < z → ¬ (92 + 71 * t ≤ x ∧ x < 92 + 71 * t + 71) → x ≠ 598 → C' x i = C x i)
    (hD : ∀ x i, 537 ≤ x → ¬ (x = 537 ∧ i < 17) → ¬ (538 ≤ x ∧ x ≤ 541) → ¬ (550 ≤ x ∧ x ≤ 584 ∧ t * wd x ≤ i ∧ i < (t + 1) * wd x) → D' x i = D x i)
    (hX : Ext (tk C') D' (2 * n)) (hT : Thr (tk C') ρ' D' rc t) (h8 : C' (92 + 71 * t) 8 = 0) (h2 : C' (92 + 71 * t) 2 = 1) : Full (tk C') ρ' D' σ kp rc (2 * n) bw br := by
  obtain ⟨⟨f1, f2, f3, f4⟩, ⟨f, g, hh, pc, pd, ch, pe, ec⟩, ⟨f6, f7, fX⟩, f8, f9, f10, f11, f12, f13, f14, f15, f16⟩ := h
  have h9 := hH.2.2.2.1
  have c12 : ∀ j, C' 12 j = C 12 j := fun j => hC _ _ (by omega) (by omega) (by omega) (by omega)
  have tl : ∀ x i, 12 ≤ x → x < z → ¬ (92 + 71 * t ≤ x ∧ x < 92 + 71 * t + 71) → x ≠ 598 → tk C' x i = tk C x i := fun x i q1 q2 q3 q4 => tk_e c12 (hC x i q1 q2 q3 q4)
  have d5 : ∀ i, 17 ≤ i → D' 537 i = D 537 i := fun i q => hD _ _ (by omega) (by omega) (by omega) (by omega)
  have dl : ∀ x i, 542 ≤ x → (x < 550 ∨ 584 < x) → D' x i = D x i := fun x i q1 q2 => hD _ _ (by omega) (by omega) (by omega) (by omega)
  have oth : ∀ u, u < 6 → u ≠ t → inC u (tk C) (tk C') ∧ inD u D D' := fun u hu hne => ⟨fun a i q1 q2 => tl a i (by omega) (by omega) (by omega) (by omega), fun a i q1 q2 q3 q4 => hD a i (by omega) (by omega) (by omega) (fun q => row_ne hne q3 q4 q.2.2.1 q.2.2.2)⟩
  have t1 : ∀ i, tk C' (92 + 71 * t) i = C' (92 + 71 * t) i := fun i => tk_n (by omega)
  have hdt : dpC (tk C') t = 0 := by
    unfold dpC
    rw [t1, h8]
    rfl
  have hd : ∀ u, u < 6 → u ≠ t → dpC (tk C') u = dpC (tk C) u := fun u hu hne => by
    unfold dpC
    rw [(oth u hu hne).1 _ _ (by omega) (by omega)]
  have e2 : ∀ u, u < 6 → u ≠ t → tk C' (92 + 71 * u) 2 = tk C (92 + 71 * u) 2 ∧ tk C' (92 + 71 * u) 15 = tk C (92 + 71 * u) 15 ∧ D' 563 u = D 563 u := fun u hu hne => ⟨(oth u hu hne).1 _ _ (by omega) (by omega), (oth u hu hne).1 _ _ (by omega) (by omega), inD_1 (oth u hu hne).2 (by omega)⟩
  have n2 : tk C' (92 + 71 * t) 2 = 1 := by rw [t1]; exact h2
  have k16 : ∀ p, tk C' 16 p = tk C 16 p := fun p => tl _ _ (by omega) (by omega) (by omega) (by omega)
  obtain ⟨g1, g2, g3⟩ := Hpr_A hH ht
  refine ⟨⟨g1 f1, g2 f2, g3 f3, f4⟩, ⟨f, g, hh, Hpr_pl hH ht (fun x i q1 q2 => tl x i (by omega) q2 (by omega) (by omega)) pc, PLd_mv pd (d5 _ (by omega)) (fun x hx => funext fun i => dl x i (by omega) (by omega)), ch, fun p hp => ?_, ?_⟩, ⟨?_, ?_, hX⟩, fun q p hp => ?_, Rsd_fr f9 (fun a i q1 q2 => tl _ _ (by omega) (by omega) (by omega) (by omega)) (d5 _ (by omega)) (fun a i q => dl _ _ (by omega) (by omega)), Rrc_fr f10 (fun a i q1 q2 => tl _ _ (by omega) (by omega) (by omega) (by omega)) (d5 _ (by omega)) (fun a i q1 q2 => dl _ _ (by omega) (by omega)), ?_, fun u hu => ?_, ?_, ?_, f15, f16⟩
  · rw [tl 14 p (by omega) (by omega) (by omega) (by omega), tl 15 p (by omega) (by omega) (by omega) (by omega), tl 16 p (by omega) (by omega) (by omega) (by omega), tl 17 p (by omega) (by omega) (by omega) (by omega), tl 18 p (by omega) (by omega) (by omega) (by omega), dl 542 p (by omega) (by omega), dl 543 p (by omega) (by omega), dl 544 p (by omega) (by omega), dl 545 p (by omega) (by omega), dl 546 p (by omega) (by omega)]
    exact pe p hp
  · rw [tl _ _ (by omega) (by omega) (by omega) (by omega), d5 _ (by omega)]; exact ec
  · rw [tk_n (by omega)] at f6
    rw [tk_n (by omega), c12, d5 _ (by omega)]; exact f6
  · rw [d5 _ (by omega)]; exact f7
  · rw [d5 _ (by omega)] at q
    rw [k16]; exact f8 q p hp
  · rw [d5 _ (by omega)]; exact f11
  · by_cases e : u = t
    · subst e; exact hT
    · exact Thr_own (f12 u hu) hu (oth u hu e).1 (oth u hu e).2 (fun len kd a1 a2 a3 q => Hpr_cat hH ht hu e (fun x i q1 q2 => tl x i (by omega) q2 (by omega) (by omega)) q)
  · obtain ⟨F, G, bs, b1, b2, b3, b4⟩ := f13
    have nt : ¬ (tk C' (92 + 71 * t) 2 = 2 ∨ tk C' (92 + 71 * t) 2 = 3) := by rw [n2]; exact n1_ne2
    refine ⟨F, G, bs, by rw [d5 _ (by omega)]; exact b1, b2, fun o ho hn p hp => ?_, fun u hu q => ?_⟩
    · rw [k16]
      by_cases e : o = t
      · subst e
        refine b3 o ho ?_ p hp
        rw [tk_n (by omega)]; exact hs2
      · rw [(e2 o ho e).1] at hn
        exact b3 o ho hn p hp
    · by_cases e : u = t
      · subst e; exact absurd q nt
      · rw [(e2 u hu e).1] at q
        obtain ⟨d1, d2, d3, d4, d5'⟩ := b4 u hu q
        refine ⟨by rw [(e2 u hu e).2.1]; exact d1, by rw [(e2 u hu e).2.2]; exact d2, d3, d4, fun w hw hne qw => ?_⟩
        by_cases e' : w = t
        · subst e'; exact absurd qw nt
        · rw [(e2 w hw e').1] at qw
          exact d5' w hw hne qw
  · obtain ⟨x1, x2, x3⟩ := f14
    have s1 : sum6 (fun u => wsum (tk C') u (dpC (tk C') u)) ≤ sum6 (fun u => wsum (tk C) u (dpC (tk C) u)) := sum6_le (fun u hu => by
      try dsimp only
      by_cases e : u = t
      · subst e; rw [hdt]; exact Nat.zero_le _
      · have hb := dpC_le (f12 u hu)
        rw [hd u hu e, wsum_congr _ (fun j hj => (oth u hu e).1 _ _ (by omega) (by omega))]
        exact Nat.le_refl _)
    have s2 : sum6 (fun u => rsum (tk C') u (dpC (tk C') u)) ≤ sum6 (fun u => rsum (tk C) u (dpC (tk C) u)) := sum6_le (fun u hu => by
      try dsimp only
      by_cases e : u = t
      · subst e; rw [hdt]; exact Nat.zero_le _
      · have hb := dpC_le (f12 u hu)
        rw [hd u hu e, rsum_congr _ (fun j hj => by unfold rl; rw [(oth u hu e).1 _ _ (by omega) (by omega)])]
        exact Nat.le_refl _)
    refine ⟨fun q => ?_, fun q => ?_, by omega⟩
    · rw [d5 _ (by omega)] at q
      rw [cntK_e (C := tk C) (C' := tk C') (fun p _ => k16 p)]; exact x1 q
    · rw [d5 _ (by omega)] at q
      have := x2 q
      omega
end Cca
