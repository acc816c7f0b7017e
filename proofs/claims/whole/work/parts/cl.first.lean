set_option linter.unusedSimpArgs false
set_option linter.unusedVariables false
/-! ===== the first state ===== -/
section Ccl
theorem dec_out {α : Type} {o : Option α} {P : α → Prop} [DecidablePred P] (h : (o.map fun s => decide (P s)) = some true) : ∃ s, o = some s ∧ P s := by
  cases o with
  | none => exact nomatch h
  | some s => exact ⟨s, rfl, of_decide_eq_true (Option.some.inj h)⟩
/-- a kind and where it may lie -/
abbrev Kq (k x : Nat) : Prop := (k = 12 → x = 12) ∧ (k = 15 → x = 13) ∧ (k = 16 → x = 25) ∧ (k = 18 → x = 22) ∧ (k = 4 → x = 91) ∧ (k = 17 → 92 ≤ x ∧ x < 518 ∧ (x - 92) % 71 = 0) ∧ (k = 13 → 92 ≤ x ∧ x < 518 ∧ 8 ≤ (x - 92) % 71 ∧ (x - 92) % 71 < 68 ∧ ((x - 92) % 71 - 8) % 6 = 0) ∧ (k = 5 → 92 ≤ x ∧ x < 518 ∧ (x - 92) % 71 = 7) ∧ (k = 6 → x = 31 ∨ x = 46 ∨ x = 61 ∨ x = 76 ∨ x = 520) ∧ (k = 22 → x = 537)
abbrev G1m (M : ao_M) : Prop := (M 8 0 = 1000 ∧ M 13 9 = 64 ∧ M 13 10 = 0 ∧ M 13 4 = 0 ∧ M 12 4 = 0 ∧ M 12 5 = 0 ∧ M 12 6 = 0 ∧ M 0 4 = 0 ∧ M 0 5 = -1 ∧ M 22 2 = 0 ∧ M 25 9 = 0 ∧ M 518 1 = 0) ∧ (∀ i, i < 300 → M 29 i ≤ M 30 i) ∧ (∀ p, p < 26 → M 14 p = 0 ∧ M 15 p = 0 ∧ M 16 p = -1 ∧ M 17 p = 0 ∧ M 18 p = -1) ∧ (∀ t, t < 6 → M (92 + 71 * t) 0 = nI t ∧ M (92 + 71 * t) 2 = 0 ∧ M (92 + 71 * t) 8 = 0 ∧ M (92 + 71 * t) 16 = 0 ∧ M (92 + 71 * t) 17 = 0 ∧ M (92 + 71 * t) 18 = 0 ∧ M (92 + 71 * t) 19 = 0) ∧ ∀ t, t < 6 → ∀ k, k < 26 → M (92 + 71 * t + 6) k = 0
abbrev G2m (M : ao_M) : Prop := (M 537 25 = 0 ∧ M 537 26 = 0 ∧ M 537 27 = 0 ∧ M 537 3 = -1 ∧ M 537 6 = 0 ∧ M 537 63 = 0 ∧ M 537 64 = 0 ∧ M 537 65 = 0 ∧ M 537 68 = 0 ∧ M 537 76 = 0 ∧ M 537 82 = 0) ∧ (∀ p, p < 26 → M 542 p = 0 ∧ M 543 p = 0 ∧ M 544 p = -1 ∧ M 545 p = 0 ∧ M 546 p = -1) ∧ (∀ t, t < 6 → M 551 t = 0 ∧ M 556 t = 0 ∧ M 559 t = 0 ∧ M 561 t = 0 ∧ M 562 t = 0) ∧ ∀ t, t < 6 → ∀ k, k < 26 → M 553 (t * 26 + k) = 0
abbrev F1h (ρ : ao_H) : Prop := ρ.2.2.2.1 = some 537 ∧ (∀ x, x < 537 → Kq (ρ.2.1 x) x) ∧ (ρ.1 13 6 = some 19 ∧ ρ.1 13 7 = some 20 ∧ ρ.1 13 8 = some 21) ∧ ∀ i, i < 3 → ρ.2.1 (19 + i) = 0 ∧ ρ.2.2.1 (19 + i) = 64
abbrev F2h (ρ : ao_H) : Prop := (ρ.1 537 1 = some 538 ∧ ρ.2.1 538 = 21) ∧ ρ.2.2.2.1 = some 598 ∧ (∀ y, y < 61 → Kq (ρ.2.1 (537 + y)) (537 + y)) ∧ (ρ.1 537 22 = some 547 ∧ ρ.1 537 23 = some 548 ∧ ρ.1 537 24 = some 549) ∧ (∀ i, i < 3 → ρ.2.1 (547 + i) = 0 ∧ ρ.2.2.1 (547 + i) = 256) ∧ ρ.2.2.2.2.1 ≤ 700 ∧ ρ.2.2.2.2.2 ≤ 900000
abbrev F1 (M : ao_M) (ρ : ao_H) : Prop := (ShA ρ ∧ ShB ρ ∧ ShG ρ) ∧ F1h ρ ∧ G1m M
abbrev F2 (M : ao_M) (ρ : ao_H) : Prop := ShD ρ ∧ F2h ρ ∧ G2m M
def dKq (k x : Nat) : Decidable (Kq k x) := by
  repeat' (first | refine @instDecidableAnd _ _ ?_ ?_ | infer_instance)
set_option maxRecDepth 1000000 in
set_option maxHeartbeats 8000000 in
def dF1 (M : ao_M) (ρ : ao_H) : Decidable (F1 M ρ) := by
  repeat' (first | refine @instDecidableAnd _ _ ?_ ?_ | refine @Nat.decidableBallLT _ _ (fun x _ => dKq _ _) | infer_instance)
set_option maxRecDepth 1000000 in
set_option maxHeartbeats 8000000 in
def dF2 (M : ao_M) (ρ : ao_H) : Decidable (F2 M ρ) := by
  repeat' (first | refine @instDecidableAnd _ _ ?_ ?_ | refine @Nat.decidableBallLT _ _ (fun x _ => dKq _ _) | infer_instance)
set_option maxRecDepth 1000000 in
set_option maxHeartbeats 8000000 in
theorem st_1 : ∃ s : ao_S, gX10_init 4000 0 (ao_zr lq_M0 0) (ao_nw lq_H0 0 20 0 6) = some s ∧ F1 s.1 s.2 := @dec_out _ _ (fun s : ao_S => F1 s.1 s.2) (fun s => dF1 s.1 s.2) (by decide +kernel)
set_option maxRecDepth 1000000 in
set_option maxHeartbeats 8000000 in
theorem st_2 : ∃ s : ao_S, ((gX10_init 4000 0 (ao_zr lq_M0 0) (ao_nw lq_H0 0 20 0 6)).bind fun s : ao_S => gX12_init 4000 537 (ao_zr s.1 537) (ao_nw s.2 537 22 0 83)) = some s ∧ F2 s.1 s.2 := @dec_out _ _ (fun s : ao_S => F2 s.1 s.2) (fun s => dF2 s.1 s.2) (by decide +kernel)
theorem st_12 : ∃ (N : Nat) (s u : ao_S), gX10_init N 0 (ao_zr lq_M0 0) (ao_nw lq_H0 0 20 0 6) = some s ∧ gX12_init N 537 (ao_zr s.1 537) (ao_nw s.2 537 22 0 83) = some u ∧ F1 s.1 s.2 ∧ F2 u.1 u.2 := by
  obtain ⟨s, e1, f1⟩ := st_1
  obtain ⟨u, e2, f2⟩ := st_2
  generalize 4000 = N at e1 e2
  rw [e1, Option.bind_some] at e2
  exact ⟨N, s, u, e1, e2, f1, f2⟩
theorem Kq_ku {k x : Nat} (h : Kq k x) : (k = 12 → x = 12) ∧ (k = 15 → x = 13) ∧ (k = 16 → x = 25) ∧ (k = 18 → x = 22) ∧ (k = 4 → x = 91) ∧ (k = 17 → ∃ t, t < 6 ∧ x = 92 + 71 * t) ∧ (k = 13 → ∃ t j, t < 6 ∧ j < 10 ∧ x = 92 + 71 * t + 8 + 6 * j) ∧ (k = 5 → ∃ t, t < 6 ∧ x = 92 + 71 * t + 7) ∧ (k = 6 → x = 31 ∨ x = 46 ∨ x = 61 ∨ x = 76 ∨ x = 520) ∧ (k = 22 → x = 537) := by
  obtain ⟨a1, a2, a3, a4, a5, a6, a7, a8, a9, a10⟩ := h
  refine ⟨a1, a2, a3, a4, a5, fun q => ?_, fun q => ?_, fun q => ?_, a9, a10⟩
  · have := a6 q
    exact ⟨(x - 92) / 71, by omega, by omega⟩
  · have := a7 q
    exact ⟨(x - 92) / 71, ((x - 92) % 71 - 8) / 6, by omega, by omega, by omega⟩
  · have := a8 q
    exact ⟨(x - 92) / 71, by omega, by omega⟩
theorem G1m_fr {M M1 : ao_M} (h : G1m M1) (e : ∀ x i, x < 537 → M x i = M1 x i) : G1m M := by
  obtain ⟨⟨a1, a2, a3, a4, a5, a6, a7, a8, a9, a10, a11, a12⟩, b, c, d, f⟩ := h
  refine ⟨⟨by rw [e _ _ (by omega)]; exact a1, by rw [e _ _ (by omega)]; exact a2, by rw [e _ _ (by omega)]; exact a3, by rw [e _ _ (by omega)]; exact a4, by rw [e _ _ (by omega)]; exact a5, by rw [e _ _ (by omega)]; exact a6, by rw [e _ _ (by omega)]; exact a7, by rw [e _ _ (by omega)]; exact a8, by rw [e _ _ (by omega)]; exact a9, by rw [e _ _ (by omega)]; exact a10, by rw [e _ _ (by omega)]; exact a11, by rw [e _ _ (by omega)]; exact a12⟩, fun i hi => by rw [e _ _ (by omega), e _ _ (by omega)]; exact b i hi, fun p hp => ?_, fun t ht => ?_, fun t ht k hk => by rw [e _ _ (by omega)]; exact f t ht k hk⟩
  · obtain ⟨c1, c2, c3, c4, c5⟩ := c p hp
    exact ⟨by rw [e _ _ (by omega)]; exact c1, by rw [e _ _ (by omega)]; exact c2, by rw [e _ _ (by omega)]; exact c3, by rw [e _ _ (by omega)]; exact c4, by rw [e _ _ (by omega)]; exact c5⟩
  · obtain ⟨c1, c2, c3, c4, c5, c6, c7⟩ := d t ht
    exact ⟨by rw [e _ _ (by omega)]; exact c1, by rw [e _ _ (by omega)]; exact c2, by rw [e _ _ (by omega)]; exact c3, by rw [e _ _ (by omega)]; exact c4, by rw [e _ _ (by omega)]; exact c5, by rw [e _ _ (by omega)]; exact c6, by rw [e _ _ (by omega)]; exact c7⟩
theorem G2m_fr {M M1 : ao_M} (h : G2m M1) (e : ∀ x i, x < 598 → M x i = M1 x i) : G2m M := by
  obtain ⟨⟨a1, a2, a3, a4, a5, a6, a7, a8, a9, a10, a11⟩, c, d, f⟩ := h
  refine ⟨⟨by rw [e _ _ (by omega)]; exact a1, by rw [e _ _ (by omega)]; exact a2, by rw [e _ _ (by omega)]; exact a3, by rw [e _ _ (by omega)]; exact a4, by rw [e _ _ (by omega)]; exact a5, by rw [e _ _ (by omega)]; exact a6, by rw [e _ _ (by omega)]; exact a7, by rw [e _ _ (by omega)]; exact a8, by rw [e _ _ (by omega)]; exact a9, by rw [e _ _ (by omega)]; exact a10, by rw [e _ _ (by omega)]; exact a11⟩, fun p hp => ?_, fun t ht => ?_, fun t ht k hk => by rw [e _ _ (by omega)]; exact f t ht k hk⟩
  · obtain ⟨c1, c2, c3, c4, c5⟩ := c p hp
    exact ⟨by rw [e _ _ (by omega)]; exact c1, by rw [e _ _ (by omega)]; exact c2, by rw [e _ _ (by omega)]; exact c3, by rw [e _ _ (by omega)]; exact c4, by rw [e _ _ (by omega)]; exact c5⟩
  · obtain ⟨c1, c2, c3, c4, c5⟩ := d t ht
    exact ⟨by rw [e _ _ (by omega)]; exact c1, by rw [e _ _ (by omega)]; exact c2, by rw [e _ _ (by omega)]; exact c3, by rw [e _ _ (by omega)]; exact c4, by rw [e _ _ (by omega)]; exact c5⟩
/-- both sides agree in the first state -/
theorem PR_first {M : ao_M} {ρ : ao_H} {B1 B2 E1 E2 : Nat} (hA : ShA ρ) (hB : ShB ρ) (hG : ShG ρ) (hD : ShD ρ) (hX : ShX ρ) (hO : ShO ρ) (hz : ρ.2.2.2.1 = some 599) (hu : Ku ρ) (l1 : ρ.1 13 6 = some 19 ∧ ρ.1 13 7 = some 20 ∧ ρ.1 13 8 = some 21) (n1 : ∀ i, i < 3 → ρ.2.1 (19 + i) = 0 ∧ ρ.2.2.1 (19 + i) = 64) (l2 : ρ.1 537 22 = some 547 ∧ ρ.1 537 23 = some 548 ∧ ρ.1 537 24 = some 549) (n2 : ∀ i, i < 3 → ρ.2.1 (547 + i) = 0 ∧ ρ.2.2.1 (547 + i) = 256) (g1 : G1m M) (g2 : G2m M) (b : ∀ x i, ρ.2.1 x = 1 → M x i = 0) (r1 : ρ.2.2.2.2.1 ≤ 1000) (r2 : ρ.2.2.2.2.2 ≤ 1000000) (s1 : 1000 ≤ B1) (s2 : 1000000 ≤ B2) (s3 : 1000 ≤ E1) (s4 : 1000000 ≤ E2) : PR 0 B1 B2 E1 E2 M ρ M ρ := by
  obtain ⟨⟨a1, a2, a3, a4, a5, a6, a7, a8, a9, a10, a11, a12⟩, a13, a14, a15, a16⟩ := g1
  obtain ⟨⟨d1, d2, d3, d4, d5, d6, d7, d8, d9, d10, d11⟩, d12, d13, d14⟩ := g2
  have k1 : ρ.2.1 1 = 1 := by simp only [hA]
  have k9 : ρ.2.1 539 = 1 := by simp only [hD]
  have z0 : (0 : Int32) = nI 0 := rfl
  have u0 : ∀ x i, ¬ (x = 537 ∧ i = 0) → ao_u M 537 0 0 x i = M x i := fun x i q => u_ne (by omega)
  have F : Full (tk M) ρ (ao_u M 537 0 0) ρ 0 0 0 0 0 := by
    refine ⟨⟨hA, hB, hG, hD⟩, ⟨fun _ => 0, fun _ => 0, fun _ => 0, ⟨19, 20, 21, 64, 599, l1.1, l1.2.1, l1.2.2, (n1 0 (by omega)).1, (n1 1 (by omega)).1, (n1 2 (by omega)).1, (n1 0 (by omega)).2, (n1 1 (by omega)).2, (n1 2 (by omega)).2, ?_, ?_, by omega, by omega, by omega, by omega, by omega, by omega, by omega, by omega, by omega, hz, by omega, by omega, by omega, by omega, fun i hi => absurd hi (by omega)⟩, ⟨547, 548, 549, 256, 599, l2.1, l2.2.1, l2.2.2, (n2 0 (by omega)).1, (n2 1 (by omega)).1, (n2 2 (by omega)).1, (n2 0 (by omega)).2, (n2 1 (by omega)).2, (n2 2 (by omega)).2, ?_, by omega, by omega, by omega, by omega, by omega, by omega, by omega, by omega, by omega, hz, by omega, by omega, by omega, by omega, fun i hi => absurd hi (by omega)⟩, fun i hi => absurd hi (by omega), fun p hp => ?_, ?_⟩, ⟨?_, ⟨0, by omega, ?_⟩, ⟨0, by omega, ?_, ?_, fun i hi => absurd hi (by omega)⟩, ⟨0, by omega, ?_, ?_, fun i hi => ?_⟩, ?_, by omega, ?_, ?_, ?_, u_eq⟩, fun _ p hp => ?_, ⟨0, by omega, ?_, ?_, fun i hi => absurd hi (by omega)⟩, ⟨0, by omega, ?_, ?_, fun i hi => absurd hi (by omega)⟩, ?_, fun t ht => ?_, ⟨fun _ => 0, fun _ => 0, 0, ?_, by omega, fun o ho hne p hp => ?_, fun t ht h => ?_⟩, ⟨fun h => ?_, fun _ => ?_, ?_⟩, by omega, by omega⟩
    · rw [tk_n (by omega)]; exact a2
    · rw [tk_n (by omega)]; exact a3
    · rw [u0 _ _ (by omega)]; exact d1
    · obtain ⟨p1, p2, p3, p4, p5⟩ := a14 p hp
      obtain ⟨q1, q2, q3, q4, q5⟩ := d12 p hp
      rw [tk_n (by omega), tk_n (by omega), tk_n (by omega), tk_n (by omega), tk_n (by omega), u0 _ _ (by omega), u0 _ _ (by omega), u0 _ _ (by omega), u0 _ _ (by omega), u0 _ _ (by omega), p1, p2, p3, p4, p5, q1, q2, q3, q4, q5]
      exact ⟨rfl, rfl, rfl, rfl, rfl, Or.inl rfl, Or.inl rfl⟩
    · rw [tk_n (by omega), u0 _ _ (by omega), a4, d2]
    · rw [tk_n (by omega), u0 _ _ (by omega), a6, d3]
    · rw [u0 _ _ (by omega)]; exact d3
    · rw [tk_n (by omega)]; exact a12
    · rw [u0 _ _ (by omega)]; exact d11
    · rw [tk_n (by omega)]; exact a8
    · rw [u0 _ _ (by omega)]; exact d5
    · rw [tk_n (by omega), u0 _ _ (by omega), b 1 i k1, b 539 i k9]
      exact ⟨rfl, by decide, by decide⟩
    · rw [tk_n (by omega), u0 _ _ (by omega), a9, d4]
    · rw [tk_6, a5]; rfl
    · rw [u0 _ _ (by omega)]; exact d8
    · rw [tk_4, a5]; rfl
    · rw [tk_n (by omega)]; exact (a14 p hp).2.2.1
    · rw [tk_n (by omega)]; exact a10
    · rw [u0 _ _ (by omega)]; exact d9
    · rw [tk_n (by omega)]; exact a11
    · rw [u0 _ _ (by omega)]; exact d10
    · rw [u0 _ _ (by omega)]; exact d7
    · obtain ⟨t1, t2, t3, t4, t5, t6, t7⟩ := a15 t ht
      obtain ⟨v1, v2, v3, v4, v5⟩ := d13 t ht
      refine ⟨0, by omega, ?_, ?_, ?_, ?_, ?_, ?_, fun k hk => ?_, fun _ _ => ?_, fun _ => ?_, Or.inl ⟨rfl, fun i i1 i2 => ?_, fun k hk => ?_⟩⟩
      · rw [tk_n (by omega)]; exact t2
      · rw [u0 _ _ (by omega)]; exact v1
      · rw [tk_n (by omega)]; exact t1
      · rw [tk_n (by omega), u0 _ _ (by omega), t5, v3]
      · rw [tk_n (by omega), u0 _ _ (by omega), t6, v5]
      · rw [tk_n (by omega), u0 _ _ (by omega), t7, v4]
      · rw [tk_n (by omega), u0 _ _ (by omega), a16 t ht k hk, d14 t ht k hk]
      · rw [tk_n (by omega)]; exact t3
      · rw [u0 _ _ (by omega)]; exact v2
      · rw [tk_n (by omega)]
        rcases (show i = 16 ∨ i = 17 ∨ i = 18 ∨ i = 19 by omega) with rfl | rfl | rfl | rfl
        · exact t4
        · exact t5
        · exact t6
        · exact t7
      · rw [tk_n (by omega)]; exact a16 t ht k hk
    · rw [u0 _ _ (by omega)]; exact d6
    · rw [tk_n (by omega), (a14 p hp).2.2.1]
      intro e
      have := n_neg (n := o) (by omega)
      rw [← e] at this
      exact this.mp rfl
    · rw [tk_n (by omega), (a15 t ht).2.1] at h
      exact absurd h (by decide)
    · rw [u0 _ _ (by omega), d3] at h
      exact absurd h (by decide)
    · rw [sum6_0 (fun t ht => ?_)]
      · omega
      · have : dpC (tk M) t = 0 := by
          unfold dpC
          rw [tk_n (by omega), (a15 t ht).2.2.1]
          rfl
        try dsimp only
        rw [this]
        rfl
    · rw [sum6_0 (fun t ht => ?_)]
      · omega
      · have : dpC (tk M) t = 0 := by
          unfold dpC
          rw [tk_n (by omega), (a15 t ht).2.2.1]
          rfl
        try dsimp only
        rw [this]
        rfl
  refine ⟨0, 0, 0, ⟨a5, F⟩, ⟨⟨⟨⟨hA, hB, hG⟩, fun x q => ?_, ⟨599, hz, by omega⟩, hu⟩, 64, ⟨a1, a2, by omega, by omega, fun t ht => ?_, a13⟩, by omega, by omega⟩, fun t ht => ?_, ?_⟩, ⟨hD, hX, hu, ⟨599, hz, by omega⟩, fun c c1 c2 => ?_, by omega, by omega⟩, hO, by omega⟩
  · left
    unfold PAc at q
    rw [l1.1, l1.2.1, l1.2.2] at q
    rcases q with q | q | q <;> (have := Option.some.inj q; omega)
  · rw [(a15 t ht).2.2.2.1, a7]; exact Int32.le_refl _
  · rw [(a15 t ht).2.2.2.1, a5]; exact Int32.le_refl _
  · rw [a7]; exact Int32.le_refl _
  · have key : ∀ a, ρ.1 537 c = some a → ρ.2.2.1 a = 256 → a < 599 → ∃ a, ρ.1 537 c = some a ∧ 1 ≤ ρ.2.2.1 a ∧ ρ.2.2.1 a ≤ 67108864 ∧ ∀ z, ρ.2.2.2.1 = some z → a < z := fun a e1 e2 e3 => ⟨a, e1, by omega, by omega, fun z hz' => by
      rw [hz] at hz'
      have := Option.some.inj hz'
      omega⟩
    rcases (show c = 22 ∨ c = 23 ∨ c = 24 by omega) with rfl | rfl | rfl
    · exact key 547 l2.1 (n2 0 (by omega)).2 (by omega)
    · exact key 548 l2.2.1 (n2 1 (by omega)).2 (by omega)
    · exact key 549 l2.2.2 (n2 2 (by omega)).2 (by omega)
/-- the law's begin -/
theorem lw_first : ∃ (M : ao_M) (ρ : ao_H), LW 0 M ρ ∧ ∀ (L : Nat) (xs : Nat → Int32) (Q : Int32 × ao_S → Prop), hv (fun n => fL_law L xs n 23 0 537 598 (nI (6 * 0)) 0 0 0 0 0 0 M ρ) Q → hv (fun n => gL_law L xs n lq_M0 lq_H0) Q := by
  obtain ⟨N, ⟨M1, ρ1⟩, ⟨M3, ρ3⟩, e1, e3', ⟨⟨hA, hB, hG⟩, ⟨z1, q1, l1, n1⟩, g1⟩, hD, ⟨hX, z3, q3, l2, n2, r1, r2⟩, g2⟩ := st_12
  dsimp only at hA hB hG z1 q1 l1 n1 g1 hD hX z3 q3 l2 n2 r1 r2 g2 e3'
  have p1 := op_up (f := fun n => gX10_init n 0 (ao_zr lq_M0 0) (ao_nw lq_H0 0 20 0 6)) (fun n => zgX10_init n 0 _ _) e1
  have p3 := op_up (f := fun n => gX12_init n 537 (ao_zr M1 537) (ao_nw ρ1 537 22 0 83)) (fun n => zgX12_init n 537 _ _) e3'
  have i0 : Inn 0 lq_M0 lq_H0 (fun _ => False) lq_M0 lq_H0 := ⟨fun x hx => absurd hx (by omega), fun _ h => h.elim, fun _ _ _ => rfl, 0, rfl, by omega, fun x k _ => ⟨rfl, rfl⟩, fun x k j _ e => nomatch e⟩
  have i1 : Inn 0 lq_M0 lq_H0 (fun _ => False) M1 ρ1 := in_gX10_init (Inn_nw i0 rfl) (okn_new i0 rfl) (M1, ρ1) e1
  obtain ⟨-, -, c1, w1, hw1, -, x1, y1⟩ := i1
  obtain rfl : w1 = 537 := by rw [z1] at hw1; exact (Option.some.inj hw1).symm
  have i2 : Inn 537 M1 ρ1 (fun _ => False) M1 ρ1 := ⟨fun x hx => ⟨rfl, rfl, rfl, rfl⟩, fun _ h => h.elim, c1, 537, z1, by omega, x1, fun x k j hx e => by rw [(x1 x k hx).1] at e; exact nomatch e⟩
  have i3 : Inn 537 M1 ρ1 (fun _ => False) M3 ρ3 := in_gX12_init (Inn_nw i2 z1) (okn_new i2 z1) (M3, ρ3) e3'
  have i4 : Inn 537 M1 ρ1 (fun _ => False) (ao_zr M3 598) (ao_nw ρ3 598 3 1 1) := Inn_nw i3 z3
  obtain ⟨fr, -, c4, w4, hw4, -, x4, y4⟩ := i4
  obtain rfl : w4 = 599 := (Option.some.inj hw4).symm
  have f3 : ∀ x k, x ≠ 598 → (ao_nw ρ3 598 3 1 1).1 x k = ρ3.1 x k := fun x k q => nw_F q
  have k3 : ∀ x, x ≠ 598 → (ao_nw ρ3 598 3 1 1).2.1 x = ρ3.2.1 x := fun x q => nw_K q
  have L3 : ∀ x, x ≠ 598 → (ao_nw ρ3 598 3 1 1).2.2.1 x = ρ3.2.2.1 x := fun x q => nw_L q
  have k598 : (ao_nw ρ3 598 3 1 1).2.1 598 = 3 := nw_Ke
  have lO : (ao_nw ρ3 598 3 1 1).2.2.1 598 = 1 := nw_Le
  have n598 : ∀ k, (ao_nw ρ3 598 3 1 1).1 598 k = none := fun k => by simp [ao_nw]
  have m3 : ∀ x i, x < 598 → ao_zr M3 598 x i = M3 x i := fun x i q => zr_n (by omega)
  have z4 : (ao_nw ρ3 598 3 1 1).2.2.2.1 = some 599 := rfl
  have o1 : (ao_nw ρ3 598 3 1 1).2.2.2.2.1 = ρ3.2.2.2.2.1 + 1 := rfl
  have o2 : (ao_nw ρ3 598 3 1 1).2.2.2.2.2 = ρ3.2.2.2.2.2 + 1 := rfl
  have lw : ∀ (M : ao_M) (ρ : ao_H), M = ao_zr M3 598 → ρ = ao_nw ρ3 598 3 1 1 → LW 0 M ρ := by
    intro M ρ hM hρ
    rw [← hM] at fr c4 m3
    rw [← hρ] at fr c4 x4 y4 f3 k3 L3 k598 lO n598 z4 o1 o2
    clear hM hρ hw4
    have hlow : ∀ x k j, x < 537 → ρ.1 x k = some j → j < 537 := fun x k j hx e => by
      rw [(fr x hx).2.1] at e
      exact (y1 x k j (by omega) e).2
    have hkz : Kz ρ := by
      intro w hw x k
      rw [z4] at hw
      obtain rfl := Option.some.inj hw
      refine ⟨fun hx => (x4 x k hx).1, fun j hj => ?_⟩
      by_cases q : x < 537
      · have := hlow x k j q hj
        omega
      · exact (y4 x k j (by omega) hj).2
    have hku : Ku ρ := by
      intro x
      have hq : Kq (ρ.2.1 x) x := by
        by_cases q : x < 537
        · rw [(fr x q).2.2.1]
          exact q1 x q
        · by_cases q' : x < 598
          · rw [k3 x (by omega)]
            have := q3 (x - 537) (by omega)
            rw [show 537 + (x - 537) = x by omega] at this
            exact this
          · by_cases q2 : x = 598
            · subst q2
              rw [k598]
              refine ⟨?_, ?_, ?_, ?_, ?_, ?_, ?_, ?_, ?_, ?_⟩ <;> (intro h; exact absurd h (by decide))
            · rw [(x4 x 0 (by omega)).2]
              refine ⟨?_, ?_, ?_, ?_, ?_, ?_, ?_, ?_, ?_, ?_⟩ <;> (intro h; exact absurd h (by decide))
      obtain ⟨b1, b2, b3, b4, b5, b6, b7, b8, b9, b10⟩ := Kq_ku hq
      exact ⟨b1, b2, b3, b4, b5, b6, b7, b8, b9, b10, hkz⟩
    have hk : ∀ x, x < 537 → ρ.2.1 x = ρ1.2.1 x := fun x hx => (fr x hx).2.2.1
    have hl : ∀ x, x < 537 → ρ.2.2.1 x = ρ1.2.2.1 x := fun x hx => (fr x hx).2.2.2
    have hf : ∀ x k, x < 537 → ρ.1 x k = ρ1.1 x k := fun x k hx => by rw [(fr x hx).2.1]
    have gM : 13 ≠ 598 := by omega
    refine ⟨fun x => x < 537 ∨ x = 598, 599, z4, by omega, fun x q => by omega, fun x q => Or.inl q, Or.inr rfl, fun x p q => by omega, fun x k j q e => ?_, fun x k j p q e => ?_, 64, by omega, ?_, ?_⟩
    · rcases q with q | q
      · exact Or.inl (hlow x k j q e)
      · subst q
        rw [n598] at e
        exact nomatch e
    · have hx : 537 ≤ x ∧ x ≠ 598 := by omega
      have h1 := y4 x k j hx.1 e
      obtain ⟨-, -, -, w3, hw3, -, -, y3⟩ := i3
      obtain rfl : w3 = 598 := by rw [z3] at hw3; exact (Option.some.inj hw3).symm
      rw [f3 x k hx.2] at e
      have h2 := y3 x k j hx.1 e
      omega
    · rw [show M 13 9 = M1 13 9 from by rw [(fr 13 (by omega)).1]]
      exact g1.1.2.1
    · refine PR_first (ShA_own (ρ := ρ1) hk hl (fun x k hx _ => hf x k hx) hA) (ShB_own (ρ := ρ1) hk hl (fun x k hx _ => hf x k hx) hB) (ShG_own (ρ := ρ1) hk hl (fun x k hx _ => hf x k hx) hG) (ShD_own (ρ := ρ3) (fun x hx => k3 x (by omega)) (fun x hx => L3 x (by omega)) (fun x k hx _ => f3 x k (by omega)) hD) ⟨?_, ?_⟩ ⟨k598, lO⟩ z4 hku ⟨?_, ?_, ?_⟩ (fun i hi => ?_) ⟨?_, ?_, ?_⟩ (fun i hi => ?_) (G1m_fr g1 (fun x i hx => by rw [(fr x hx).1])) (G2m_fr g2 m3) c4 (by omega) (by omega) (by omega) (by omega) (by omega) (by omega)
      · rw [f3 _ _ (by omega)]; exact hX.1
      · rw [k3 _ (by omega)]; exact hX.2
      · rw [hf _ _ (by omega)]; exact l1.1
      · rw [hf _ _ (by omega)]; exact l1.2.1
      · rw [hf _ _ (by omega)]; exact l1.2.2
      · rw [hk _ (by omega), hl _ (by omega)]; exact n1 i hi
      · rw [f3 _ _ (by omega)]; exact l2.1
      · rw [f3 _ _ (by omega)]; exact l2.2.1
      · rw [f3 _ _ (by omega)]; exact l2.2.2
      · rw [k3 _ (by omega), L3 _ (by omega)]; exact n2 i hi
  refine ⟨ao_zr M3 598, ao_nw ρ3 598 3 1 1, lw _ _ rfl rfl, fun L xs Q hQ => ?_⟩
  unfold gL_law
  refine hv_up (fun _ => fL_law.eq_2 ..) ?_
  simp only [↓reduceIte, Nat.reduceEqDiff]
  refine hv_bind (P := fun u => u = 0) (hv_eq (show lq_H0.2.2.2.1 = some 0 from rfl) rfl) (fun u hu => ?_)
  rw [hu]
  refine hv_up (fun _ => fL_law.eq_2 ..) ?_
  simp only [↓reduceIte, Nat.reduceEqDiff]
  refine hv_bind (P := fun u => u = (M1, ρ1)) ⟨N, _, p1, rfl⟩ (fun u hu => ?_)
  rw [hu]
  refine hv_up (fun _ => fL_law.eq_2 ..) ?_
  simp only [↓reduceIte, Nat.reduceEqDiff]
  refine hv_bind (P := fun u => u = 537) (hv_eq z1 rfl) (fun u hu => ?_)
  rw [hu]
  refine hv_up (fun _ => fL_law.eq_2 ..) ?_
  simp only [↓reduceIte, Nat.reduceEqDiff]
  refine hv_bind (P := fun u => u = (M3, ρ3)) ⟨N, _, p3, rfl⟩ (fun u hu => ?_)
  rw [hu]
  refine hv_up (fun _ => fL_law.eq_2 ..) ?_
  simp only [↓reduceIte, Nat.reduceEqDiff]
  refine hv_bind (P := fun u => u = 598) (hv_eq z3 rfl) (fun u hu => ?_)
  rw [hu]
  refine hv_ifT (by decide) ?_
  refine hv_up (fun _ => fL_law.eq_2 ..) ?_
  simp only [↓reduceIte, Nat.reduceEqDiff]
  rw [show (1 : Int32).toNatClampNeg = 1 from by decide]
  exact hQ
end Ccl
