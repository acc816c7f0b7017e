set_option linter.unusedSimpArgs false
set_option linter.unusedVariables false
theorem n_ell {a b : Nat} (ha : (OfNat.ofNat a : Nat) < 2147483648) (hb : (OfNat.ofNat b : Nat) < 2147483648) : ((no_index (OfNat.ofNat a : Int32)) = (no_index (OfNat.ofNat b : Int32))) = ((OfNat.ofNat a : Nat) = (OfNat.ofNat b : Nat)) := n_eq ha hb
/-! ===== a thread at an instruction ===== -/
def Tc (C D : ao_M) (rc t s : Nat) (fi se : Fn) (len : Nat) (φ : Nat → Nat) (N : Ns) (H : Nat → Nat) (a : Nat) : Prop := (s = 1 ∨ s = 2) ∧ C (92 + 71 * t) 2 = nI s ∧ D 551 t = nI s ∧ C (92 + 71 * t) 0 = nI t ∧ C (92 + 71 * t) 17 = D 559 t ∧ C (92 + 71 * t) 18 = D 562 t ∧ C (92 + 71 * t) 19 = D 561 t ∧ Regs C D t ∧ a ≤ len ∧ C (92 + 71 * t) 3 = nI a ∧ D 552 t = nI (φ a) ∧ Stk C D t (H a) ∧ Ctl C D t fi se len φ N (N a) ∧
  (s = 1 → nl (N a) = 0 ∧ C (92 + 71 * t) 8 = 0 ∧ D 556 t = 0) ∧ (s = 2 → 1 ≤ nl (N a) ∧ Ins C D rc t (nl (N a)) ∧ D 556 t = nI (nl (N a)) ∧ C (92 + 71 * t) 14 = D 560 t ∧ C (92 + 71 * t) 16 = D 564 t)
theorem Tc_Thr {C D : ao_M} {ρ : ao_H} {rc t s len kd a1 a2 a3 a : Nat} {φ : Nat → Nat} {N : Ns} {H K : Nat → Nat} (hcat : Cat C ρ t len kd a1 a2 a3) (cok : Cok (C a1) (C a2) (C a3) (dcd D t) len φ N H K) (h : Tc C D rc t s (C a2) (C a3) len φ N H a) : Thr C ρ D rc t := by
  obtain ⟨h1, h2, h3, h4, h5, h6, h7, h8, h9, h10, h11, h12, h13, h14, h15⟩ := h
  have hq := (cok.2.2.2.2.2.1 a h9).1
  refine ⟨s, by omega, h2, h3, h4, h5, h6, h7, h8, fun q1 q2 => (h14 (by omega)).2.1, fun q => (h14 (by omega)).2.2, Or.inr ⟨by omega, len, kd, a1, a2, a3, φ, N, H, K, hcat, cok, ?_, ?_, ?_⟩⟩
  · intro e
    exact ⟨a, h9, ⟨h10, φ a, h11, by omega, Or.inl rfl⟩, h12, h13, (h14 e).1⟩
  · intro e
    obtain ⟨g1, g2, g3, g4, g5⟩ := h15 e
    exact ⟨a, h9, ⟨h10, φ a, h11, by omega, Or.inl rfl⟩, h12, h13, g1, g2, g3, g4, g5⟩
  · intro e; omega
/-- what an instruction on the way may touch of a thread -/
theorem Tc_mv {C D C' D' : ao_M} {rc t s len a a' : Nat} {op fi se d : Fn} {φ : Nat → Nat} {N : Ns} {H K : Nat → Nat} (ht : t < 6) (cok : Cok op fi se d len φ N H K) (h : Tc C D rc t s fi se len φ N H a) (hN : N a' = N a) (ha' : a' ≤ len)
    (hC : ∀ x i, 92 + 71 * t ≤ x → x < 92 + 71 * t + 71 → x ≠ 92 + 71 * t + 5 → x ≠ 92 + 71 * t + 6 → ¬ (x = 92 + 71 * t ∧ (i = 3 ∨ i = 5)) → C' x i = C x i) (hD : ∀ x i, 551 ≤ x → x ≤ 584 → x ≠ 553 → x ≠ 554 → ¬ (i = t ∧ (x = 552 ∨ x = 555)) → D' x i = D x i)
    (h3 : C' (92 + 71 * t) 3 = nI a') (h52 : D' 552 t = nI (φ a')) (hS : Stk C' D' t (H a')) (hR : Regs C' D' t) : Tc C' D' rc t s fi se len φ N H a' := by
  obtain ⟨k1, k2, k3, k4, k5, k6, k7⟩ := cok
  obtain ⟨b1, b2, b3, b4, b5, b6, b7, b8, b9, b10, b11, b12, b13, b14, b15⟩ := h
  obtain ⟨m1, m2, m3, m4⟩ := k6 a b9
  have hb := chd_b (fun i hi => (k6 i hi).2.1) (N a) m4 m2
  have l1 := @nl_le (N a)
  have l2 := @ns_le (N a)
  have l3 := @nt_le (N a)
  have e : ∀ i, i ≠ 3 → i ≠ 5 → C' (92 + 71 * t) i = C (92 + 71 * t) i := fun i h1 h2 => hC _ _ (by omega) (by omega) (by omega) (by omega) (by omega)
  have ed : ∀ x, 551 ≤ x → x ≤ 564 → x ≠ 552 → x ≠ 553 → x ≠ 554 → x ≠ 555 → D' x t = D x t := fun x h1 h2 h3 h4 h5 h6 => hD _ _ (by omega) (by omega) (by omega) (by omega) (by omega)
  have el : ∀ x i, 92 + 71 * t + 7 < x → x < 92 + 71 * t + 71 → C' x i = C x i := fun x i h1 h2 => hC _ _ (by omega) (by omega) (by omega) (by omega) (by omega)
  have eh : ∀ x i, 565 ≤ x → x ≤ 584 → D' x i = D x i := fun x i h1 h2 => hD _ _ (by omega) (by omega) (by omega) (by omega) (by omega)
  refine ⟨b1, by rw [e _ (by omega) (by omega)]; exact b2, by rw [ed _ (by omega) (by omega) (by omega) (by omega) (by omega) (by omega)]; exact b3, by rw [e _ (by omega) (by omega)]; exact b4, by rw [e _ (by omega) (by omega), ed _ (by omega) (by omega) (by omega) (by omega) (by omega) (by omega)]; exact b5, by rw [e _ (by omega) (by omega), ed _ (by omega) (by omega) (by omega) (by omega) (by omega) (by omega)]; exact b6, by rw [e _ (by omega) (by omega), ed _ (by omega) (by omega) (by omega) (by omega) (by omega) (by omega)]; exact b7, hR, ha', h3, h52, hS, ?_, ?_, ?_⟩
  · rw [hN]
    obtain ⟨c1, c2, c3, c4⟩ := b13
    refine ⟨by rw [e _ (by omega) (by omega)]; exact c1, by rw [ed _ (by omega) (by omega) (by omega) (by omega) (by omega) (by omega)]; exact c2, by rw [ed _ (by omega) (by omega) (by omega) (by omega) (by omega) (by omega)]; exact c3, fun x hx => ?_⟩
    obtain ⟨q1, q2, q3⟩ := hb x hx
    obtain ⟨r1, r2, r3⟩ := c4 x hx
    refine ⟨fun e0 => ?_, fun e0 => ?_, fun e0 => ?_⟩
    · rw [el _ _ (by omega) (by omega), el _ _ (by omega) (by omega), eh 570 _ (by omega) (by omega), eh 571 _ (by omega) (by omega), eh 572 _ (by omega) (by omega), eh 573 _ (by omega) (by omega), eh 574 _ (by omega) (by omega), eh 565 _ (by omega) (by omega)]
      exact r1 e0
    · rw [eh _ _ (by omega) (by omega)]; exact r2 e0
    · rw [el _ _ (by omega) (by omega), el _ _ (by omega) (by omega), eh 566 _ (by omega) (by omega), eh 567 _ (by omega) (by omega), eh 568 _ (by omega) (by omega), eh 569 _ (by omega) (by omega)]
      exact r3 e0
  · rw [hN, e _ (by omega) (by omega), ed _ (by omega) (by omega) (by omega) (by omega) (by omega) (by omega)]; exact b14
  · rw [hN, e _ (by omega) (by omega), e _ (by omega) (by omega), ed _ (by omega) (by omega) (by omega) (by omega) (by omega) (by omega), ed _ (by omega) (by omega) (by omega) (by omega) (by omega) (by omega), ed _ (by omega) (by omega) (by omega) (by omega) (by omega) (by omega)]
    intro es
    obtain ⟨g1, ⟨g2, g3, hl, g4, g5, g6⟩, g7, g8, g9⟩ := b15 es
    refine ⟨g1, ⟨by rw [e _ (by omega) (by omega)]; exact g2, fun j hj => ?_, hl, fun j hj => ?_, ?_, fun i hi h2 => ?_⟩, g7, g8, g9⟩
    · obtain ⟨⟨l1, l2⟩, l3, l4, ⟨ps, vs, ws, l5, l6⟩⟩ := g3 j hj
      refine ⟨⟨?_, ?_⟩, fun k hk => ?_, ⟨fun p hp => ?_, fun p hp => ?_⟩, ps, vs, ws, RdC_mv l5 (el _ _ (by omega) (by omega)) (el _ _ (by omega) (by omega)) (fun i => ⟨el _ _ (by omega) (by omega), el _ _ (by omega) (by omega), el _ _ (by omega) (by omega)⟩), RdD_mv l6 (Nat.le_refl _) (fun p hp => ⟨eh _ _ (by omega) (by omega), eh _ _ (by omega) (by omega), eh _ _ (by omega) (by omega), eh _ _ (by omega) (by omega)⟩)⟩
      · rw [el _ _ (by omega) (by omega), eh _ _ (by omega) (by omega)]; exact l1
      · rw [eh _ _ (by omega) (by omega)]; exact l2
      · rw [el _ _ (by omega) (by omega), eh _ _ (by omega) (by omega)]; exact l3 k hk
      · rw [el _ _ (by omega) (by omega)]; exact l4.1 p hp
      · rw [el _ _ (by omega) (by omega), eh _ _ (by omega) (by omega), eh _ _ (by omega) (by omega), el _ _ (by omega) (by omega)]; exact l4.2 p hp
    · obtain ⟨a1, a2, a3, a4⟩ := g4 j hj
      refine ⟨a1, by rw [eh _ _ (by omega) (by omega)]; exact a2, by rw [el _ _ (by omega) (by omega)]; exact a3, fun i hi => by rw [eh _ _ (by omega) (by omega)]; exact a4 i hi⟩
    · rw [e _ (by omega) (by omega)]; exact g5
    · rw [el _ _ (by omega) (by omega)]; exact g6 i hi h2
