set_option linter.unusedSimpArgs false
set_option linter.unusedVariables false
/-! ===== a level begins ===== -/
theorem open_ok {C D C' D' : ao_M} {rc t s len a B : Nat} {op fi se d : Fn} {φ : Nat → Nat} {N : Ns} {H K : Nat → Nat} (ht : t < 6) (cok : Cok op fi se d len φ N H K) (tc : Tc C D rc t s fi se len φ N H a) (ha : a < len) (j1 : φ (a + 1) = φ a + 1) (j2 : N (a + 1) = (0, a) :: N a) (j3 : H (a + 1) = 0) (i3 : H a = 0) (hB : se a = nI B) (hBl : B ≤ len)
    (hC : ∀ x i, 92 + 71 * t ≤ x → x < 92 + 71 * t + 71 → x ≠ 92 + 71 * t + 8 + 6 * nl (N a) → x ≠ 92 + 71 * t + 8 + 6 * nl (N a) + 5 → ¬ (x = 92 + 71 * t ∧ (i = 2 ∨ i = 3 ∨ i = 8 ∨ i = 13 ∨ i = 14 ∨ i = 15 ∨ i = 16)) → C' x i = C x i)
    (hD : ∀ x i, 551 ≤ x → x ≤ 584 → ¬ (i = t ∧ (x = 551 ∨ x = 552 ∨ x = 556 ∨ x = 557 ∨ x = 560 ∨ x = 563 ∨ x = 564)) → ¬ (x = 565 ∧ i = t * 12 + ns (N a)) → ¬ ((570 ≤ x ∧ x ≤ 574 ∨ x = 576 ∨ x = 584) ∧ i = t * 12 + nl (N a)) → ¬ ((x = 575 ∨ x = 577 ∨ x = 578) ∧ (t * 12 + nl (N a)) * 26 ≤ i ∧ i < (t * 12 + nl (N a)) * 26 + 26) → D' x i = D x i)
    (c2 : C' (92 + 71 * t) 2 = 2) (c3 : C' (92 + 71 * t) 3 = nI (a + 1)) (c8 : C' (92 + 71 * t) 8 = nI (nl (N a) + 1)) (c13 : C' (92 + 71 * t) 13 = if s = 2 then C (92 + 71 * t) 13 else 0) (c1416 : C' (92 + 71 * t) 14 = D' 560 t ∧ C' (92 + 71 * t) 16 = D' 564 t)
    (l3 : C' (92 + 71 * t + 8 + 6 * nl (N a)) 3 = 0) (l4 : C' (92 + 71 * t + 8 + 6 * nl (N a)) 4 = 0) (l6 : C' (92 + 71 * t + 8 + 6 * nl (N a)) 6 = 0) (l8 : C' (92 + 71 * t + 8 + 6 * nl (N a)) 8 = nI a) (l9 : C' (92 + 71 * t + 8 + 6 * nl (N a)) 9 = 0) (l10 : C' (92 + 71 * t + 8 + 6 * nl (N a)) 10 = C' (92 + 71 * t) 13) (l11 : C' (92 + 71 * t + 8 + 6 * nl (N a)) 11 = C (92 + 71 * t) 11) (lr : ∀ k, k < 26 → C' (92 + 71 * t + 8 + 6 * nl (N a) + 5) k = C (92 + 71 * t + 6) k)
    (d51 : D' 551 t = 2) (d52 : D' 552 t = nI (φ a + 1)) (d56 : D' 556 t = nI (nl (N a) + 1)) (d57 : D' 557 t = nI (ns (N a) + 1)) (d65 : D' 565 (t * 12 + ns (N a)) = nI (nl (N a))) (d70 : D' 570 (t * 12 + nl (N a)) = nI (φ a + 1)) (d71 : fi a = -1 ∧ D' 571 (t * 12 + nl (N a)) = -1 ∨ ∃ T, T ≤ len ∧ fi a = nI T ∧ D' 571 (t * 12 + nl (N a)) = nI (φ T)) (d72 : D' 572 (t * 12 + nl (N a)) = nI (φ B)) (d73 : D' 573 (t * 12 + nl (N a)) = nI (ns (N a) + 1)) (d74 : D' 574 (t * 12 + nl (N a)) = nI (nt (N a))) (d76 : D' 576 (t * 12 + nl (N a)) = 0) (d84 : D' 584 (t * 12 + nl (N a)) = 0)
    (d75 : ∀ k, k < 26 → D' 575 ((t * 12 + nl (N a)) * 26 + k) = D 553 (t * 26 + k)) (d77 : ∀ k, k < 26 → D' 577 ((t * 12 + nl (N a)) * 26 + k) = 0 ∧ D' 578 ((t * 12 + nl (N a)) * 26 + k) = 0) : Tc C' D' rc t 2 fi se len φ N H (a + 1) := by
  obtain ⟨k1, k2, k3, k4, k5, k6, k7⟩ := cok
  obtain ⟨b1, b2, b3, b4, b5, b6, b7, b8, b9, b10, b11, b12, b13, b14, b15⟩ := tc
  obtain ⟨m1, m2, m3, m4⟩ := k6 a b9
  obtain ⟨m1', m2', m3', m4'⟩ := k6 (a + 1) (by omega)
  rw [j2] at m2'
  simp only [List.length_cons] at m2'
  have hb := chd_b (fun i hi => (k6 i hi).2.1) (N a) m4 m2
  have hlt := chd_lt (N a) m4
  have n1 := @nl_le (N a)
  have n2 := @ns_le (N a)
  have n3 := @nt_le (N a)
  have e : ∀ i, i ≠ 2 → i ≠ 3 → i ≠ 8 → i ≠ 13 → i ≠ 14 → i ≠ 15 → i ≠ 16 → C' (92 + 71 * t) i = C (92 + 71 * t) i := fun i h1 h2 h3 h4 h5 h6 h7 => hC _ _ (by omega) (by omega) (by omega) (by omega) (by omega)
  have el : ∀ x i, 92 + 71 * t < x → x < 92 + 71 * t + 71 → x ≠ 92 + 71 * t + 8 + 6 * nl (N a) → x ≠ 92 + 71 * t + 8 + 6 * nl (N a) + 5 → C' x i = C x i := fun x i h1 h2 h3 h4 => hC _ _ (by omega) (by omega) h3 h4 (by omega)
  have ed : ∀ x, x = 553 ∨ x = 554 ∨ x = 555 ∨ x = 558 ∨ x = 559 ∨ x = 561 ∨ x = 562 ∨ 566 ≤ x ∧ x ≤ 569 ∨ 579 ≤ x ∧ x ≤ 583 → ∀ i, D' x i = D x i := fun x hx i => hD _ _ (by omega) (by omega) (by omega) (by omega) (by omega) (by omega)
  have ej : ∀ x j, 570 ≤ x ∧ x ≤ 574 ∨ x = 576 ∨ x = 584 → j < nl (N a) → D' x (t * 12 + j) = D x (t * 12 + j) := fun x j hx hj => hD _ _ (by omega) (by omega) (by omega) (by omega) (by omega) (by omega)
  have er : ∀ x j p, x = 575 ∨ x = 577 ∨ x = 578 → j < nl (N a) → p < 26 → D' x ((t * 12 + j) * 26 + p) = D x ((t * 12 + j) * 26 + p) := fun x j p hx hj hp => hD _ _ (by omega) (by omega) (by omega) (by omega) (by omega) (by omega)
  obtain ⟨q11, q58, q57, qE⟩ := b13
  refine ⟨Or.inr rfl, c2, d51, by rw [e _ (by omega) (by omega) (by omega) (by omega) (by omega) (by omega) (by omega)]; exact b4, by rw [e _ (by omega) (by omega) (by omega) (by omega) (by omega) (by omega) (by omega), ed _ (by omega)]; exact b5, by rw [e _ (by omega) (by omega) (by omega) (by omega) (by omega) (by omega) (by omega), ed _ (by omega)]; exact b6, by rw [e _ (by omega) (by omega) (by omega) (by omega) (by omega) (by omega) (by omega), ed _ (by omega)]; exact b7, fun k hk => by rw [el _ _ (by omega) (by omega) (by omega) (by omega), ed _ (by omega)]; exact b8 k hk, by omega, c3, by rw [j1]; exact d52, ?_, ?_, fun x => absurd x (by omega), fun _ => ⟨by rw [j2, nl_c0]; omega, ?_, by rw [j2, nl_c0]; exact d56, c1416.1, c1416.2⟩⟩
  · rw [j3]
    rw [i3] at b12
    exact ⟨by rw [e _ (by omega) (by omega) (by omega) (by omega) (by omega) (by omega) (by omega)]; exact b12.1, by rw [ed _ (by omega)]; exact b12.2.1, fun i hi => absurd hi (by omega)⟩
  · rw [j2]
    refine ⟨by rw [nt_c0, e _ (by omega) (by omega) (by omega) (by omega) (by omega) (by omega) (by omega)]; exact q11, by rw [nt_c0, ed _ (by omega)]; exact q58, by rw [ns_c0]; exact d57, fun x hx => ?_⟩
    rcases List.mem_cons.mp hx with rfl | hx
    · refine ⟨fun _ => ?_, fun e => absurd e (by simp), fun e => absurd e (by simp)⟩
      dsimp only
      exact ⟨l8, l11.trans q11, d70, d71, ⟨B, hBl, hB, d72⟩, d73, d74, d65⟩
    · obtain ⟨p1, p2, p3⟩ := hb x hx
      obtain ⟨r1, r2, r3, r4⟩ := hlt x hx
      refine Ent_mv (qE x hx) (fun e => ?_) (fun e => ?_) (fun e => ?_)
      · have := r1 e
        exact ⟨el _ _ (by omega) (by omega) (by omega) (by omega), el _ _ (by omega) (by omega) (by omega) (by omega), fun y h1 h2 => ej _ _ (by omega) this⟩
      · have := r2 e
        exact hD _ _ (by omega) (by omega) (by omega) (by omega) (by omega) (by omega)
      · exact ⟨el _ _ (by omega) (by omega) (by omega) (by omega), el _ _ (by omega) (by omega) (by omega) (by omega), fun y h1 h2 => ed _ (by omega) _⟩
  · rw [j2, nl_c0]
    refine ⟨c8, fun j hj => ?_, ?_⟩
    · by_cases q : j < nl (N a)
      · have es : s = 2 := by
          rcases b1 with es | es
          · have := (b14 es).1; omega
          · exact es
        obtain ⟨⟨u1, u2⟩, u3, u4, ⟨ps, vs, ws, u5, u6⟩⟩ := (b15 es).2.1.2.1 j q
        have ec : ∀ o i, o ≤ 5 → C' (92 + 71 * t + 8 + 6 * j + o) i = C (92 + 71 * t + 8 + 6 * j + o) i := fun o i ho => el _ _ (by omega) (by omega) (by omega) (by omega)
        have ec0 : ∀ i, C' (92 + 71 * t + 8 + 6 * j) i = C (92 + 71 * t + 8 + 6 * j) i := fun i => el _ _ (by omega) (by omega) (by omega) (by omega)
        refine ⟨⟨by rw [ec0, ej _ _ (by omega) q]; exact u1, by rw [ej _ _ (by omega) q]; exact u2⟩, fun k hk => by rw [ec 5 k (by omega), er _ _ _ (by omega) q hk]; exact u3 k hk, ⟨fun p hp => by rw [ec0]; exact u4.1 p hp, fun p hp => by rw [ec0, er _ _ _ (by omega) q hp, ec 4 p (by omega), ed _ (by omega)]; exact u4.2 p hp⟩, ps, vs, ws, RdC_mv u5 (ec0 _) (ec0 _) (fun i => ⟨ec 1 i (by omega), ec 2 i (by omega), ec 3 i (by omega)⟩), RdD_mv u6 (Nat.le_refl _) (fun p hp => ⟨er _ _ _ (by omega) q hp, ed _ (by omega) _, ed _ (by omega) _, ed _ (by omega) _⟩)⟩
      · obtain rfl : j = nl (N a) := by omega
        refine ⟨⟨by rw [l9, d76], by rw [d76]; exact Or.inl rfl⟩, fun k hk => by rw [lr k hk, d75 k hk]; exact b8 k hk, ⟨fun p hp => by rw [l6, bt_0], fun p hp => ?_⟩, [], fun _ => 0, fun _ => 0, RdC_nil l3 l4, RdD_nil (fun p hp => (d77 p hp).1)⟩
        rw [l6, bt_0, (d77 p hp).2]
        exact ⟨by simp, fun x => absurd x (by simp)⟩
    · by_cases es : s = 2
      · obtain ⟨hl, g4, g5, g6⟩ := (b15 es).2.1.2.2
        rw [if_pos es] at c13
        have hlc : ∀ j, j ≤ nl (N a) → cat (fun j => if j < nl (N a) then hl j else []) j = cat hl j := fun j hj => cat_congr j (fun i hi => if_pos (by omega))
        have hlc1 : cat (fun j => if j < nl (N a) then hl j else []) (nl (N a) + 1) = cat hl (nl (N a)) := by
          rw [cat, if_neg (by omega), List.append_nil, hlc _ (by omega)]
        refine ⟨fun j => if j < nl (N a) then hl j else [], fun j hj => ?_, ?_, fun i hi h200 => ?_⟩
        · by_cases q : j < nl (N a)
          · obtain ⟨v1, v2, v3, v4⟩ := g4 j q
            simp only [q, ↓reduceIte]
            refine ⟨v1, by rw [ej _ _ (by omega) q]; exact v2, by rw [el _ _ (by omega) (by omega) (by omega) (by omega), hlc j (by omega)]; exact v3, fun i hi => by rw [ed _ (by omega)]; exact v4 i hi⟩
          · obtain rfl : j = nl (N a) := by omega
            simp only [q, ↓reduceIte]
            refine ⟨by simp, d84, by rw [l10, c13, g5, hlc _ (by omega)], fun i hi => absurd hi (by simp)⟩
        · rw [c13, g5, hlc1]
        · simp only [hlc1] at hi ⊢
          rw [el _ _ (by omega) (by omega) (by omega) (by omega)]
          exact g6 i hi h200
      · rw [if_neg es] at c13
        have h0 : nl (N a) = 0 := (b14 (by omega)).1
        refine ⟨fun _ => [], fun j hj => ?_, ?_, fun i hi => ?_⟩
        · obtain rfl : j = nl (N a) := by omega
          refine ⟨by simp, d84, by rw [l10, c13, h0]; rfl, fun i hi => absurd hi (by simp)⟩
        · rw [c13, h0]; rfl
        · have : cat (fun _ => ([] : List Int32)) (nl (N a) + 1) = [] := by rw [h0]; rfl
          rw [this] at hi
          exact absurd hi (by simp)
