set_option linter.unusedSimpArgs false
set_option linter.unusedVariables false
/-! ===== a fail that a try catches ===== -/
theorem try_at {N : Ns} {op : Fn} {len : Nat} : ∀ (l : List (Nat × Nat)), chd N op len l → 1 ≤ nt l → ∃ b, b < len ∧ op b = 21 ∧ nt (N b) + 1 = nt l ∧ nl (N b) ≤ nl l ∧ (∀ e, e ∈ (2, b) :: N b → e ∈ l) ∧ ∀ k, nl (N b) ≤ k → k < nl l → ∃ b', b' < len ∧ op b' = 16 ∧ nl (N b') = k ∧ (∀ e, e ∈ (0, b') :: N b' → e ∈ l) ∧ nt (N b') = nt l ∧ ∀ e, e ∈ (2, b) :: N b → e ∈ N b' := by
  intro l
  induction l with
  | nil => intro _ h; simp [nt] at h
  | cons e l ih =>
    intro hc hn
    obtain ⟨h1, h2, h3, h4⟩ := hc
    rcases h3 with ⟨e1, e2⟩ | ⟨e1, e2⟩ | ⟨e1, e2⟩
    · obtain ⟨x, y⟩ := e
      dsimp only at e1 e2 h1 h2
      subst e1
      rw [nt_c0] at hn
      obtain ⟨b, g1, g2, g3, g4, g5, g6⟩ := ih h4 hn
      refine ⟨b, g1, g2, by rw [nt_c0]; exact g3, by rw [nl_c0]; omega, fun e he => List.mem_cons_of_mem _ (g5 e he), fun k k1 k2 => ?_⟩
      rw [nl_c0] at k2
      by_cases ek : k < nl l
      · obtain ⟨b', q1, q2, q3, q4, q5, q6⟩ := g6 k k1 ek
        exact ⟨b', q1, q2, q3, fun e he => List.mem_cons_of_mem _ (q4 e he), by rw [nt_c0]; exact q5, q6⟩
      · refine ⟨y, h2, e2, by rw [← h1]; omega, fun e he => ?_, by rw [nt_c0, ← h1], fun e he => by rw [← h1]; exact g5 e he⟩
        rw [← h1] at he
        exact he
    · obtain ⟨x, y⟩ := e
      dsimp only at e1 e2 h1 h2
      subst e1
      rw [nt_c1] at hn
      obtain ⟨b, g1, g2, g3, g4, g5, g6⟩ := ih h4 hn
      refine ⟨b, g1, g2, by rw [nt_c1]; exact g3, by rw [nl_c1]; exact g4, fun e he => List.mem_cons_of_mem _ (g5 e he), fun k k1 k2 => ?_⟩
      rw [nl_c1] at k2
      obtain ⟨b', q1, q2, q3, q4, q5, q6⟩ := g6 k k1 k2
      exact ⟨b', q1, q2, q3, fun e he => List.mem_cons_of_mem _ (q4 e he), by rw [nt_c1]; exact q5, q6⟩
    · obtain ⟨x, y⟩ := e
      dsimp only at e1 e2 h1 h2
      subst e1
      refine ⟨y, h2, e2, by rw [nt_c2, ← h1], by rw [nl_c2, ← h1]; exact Nat.le_refl _, fun e he => ?_, fun k k1 k2 => ?_⟩
      · rw [← h1] at he
        exact he
      · rw [nl_c2, h1] at k2
        omega
theorem ins_21 {op fi se d : Fn} {len : Nat} {φ : Nat → Nat} {N : Ns} {H K : Nat → Nat} {i : Nat} (h : ins op fi se d len φ N H K i) (e : op i = 21) : ∃ T r, fi i = nI T ∧ se i = nI r ∧ r < 26 ∧ T ≤ len ∧ N T = N i ∧ H T = 0 := by
  unfold ins at h
  rw [e] at h
  simp only [show ((21 : Int32) = 1) = False by decide, show ((21 : Int32) = 2) = False by decide, show ((21 : Int32) = 3) = False by decide, show ((21 : Int32) = 4) = False by decide, show ((21 : Int32) = 5) = False by decide, show ((21 : Int32) = 6) = False by decide, show ((21 : Int32) = 7) = False by decide, show ((21 : Int32) = 8) = False by decide, show ((21 : Int32) = 9) = False by decide, show ((21 : Int32) = 10) = False by decide, show ((21 : Int32) = 11) = False by decide, show ((21 : Int32) = 12) = False by decide, show ((21 : Int32) = 13) = False by decide, show ((21 : Int32) = 14) = False by decide, show ((21 : Int32) = 15) = False by decide, show ((21 : Int32) = 16) = False by decide, show ((21 : Int32) = 17) = False by decide, show ((21 : Int32) = 18) = False by decide, show ((21 : Int32) = 19) = False by decide, show ((21 : Int32) = 20) = False by decide, show ((21 : Int32) = 22) = False by decide, show ((21 : Int32) = 0) = False by decide, false_and, false_or, or_false, true_and] at h
  obtain ⟨-, -, -, -, -, -, T, r, q1, -, q3, -, q5, q6, q7, q8⟩ := h
  exact ⟨T, r, q1, q3, q5, q6, q7, q8⟩
section Stb1
variable {C D : ao_M} {ρ σ : ao_H} {kp rc nw bw br t s len kd a1 a2 a3 a : Nat} {φ : Nat → Nat} {N : Ns} {H K : Nat → Nat}
theorem catch_go {C' D' : ao_M} {b T r : Nat} {v : Int32} (hF : Full C ρ D σ kp rc nw bw br) (ht : t < 6) (ho : Opn C ρ D rc t s len kd a1 a2 a3 φ N H K a) (hmem : ∀ e, e ∈ (2, b) :: N b → e ∈ N a) (hnl : nl (N b) = nl (N a)) (hTl : T ≤ len) (hNT : N T = N b) (hHT : H T = 0) (hr : r < 26)
    (hC : ∀ x i, ¬ (x = 92 + 71 * t ∧ (i = 3 ∨ i = 5 ∨ i = 11)) → x ≠ 92 + 71 * t + 5 → ¬ (x = 92 + 71 * t + 6 ∧ i = r) → C' x i = C x i) (hD : ∀ x i, ¬ (i = t ∧ (x = 552 ∨ x = 555 ∨ x = 557 ∨ x = 558)) → ¬ (x = 554 ∧ t * 64 ≤ i ∧ i < t * 64 + 64) → ¬ (x = 553 ∧ i = t * 26 + r) → D' x i = D x i)
    (c3 : C' (92 + 71 * t) 3 = nI T) (c5 : C' (92 + 71 * t) 5 = 0) (c11 : C' (92 + 71 * t) 11 = nI (nt (N b))) (c6 : C' (92 + 71 * t + 6) r = v) (d52 : D' 552 t = nI (φ T)) (d55 : D' 555 t = 0) (d57 : D' 557 t = nI (ns (N b))) (d58 : D' 558 t = nI (nt (N b))) (d53 : D' 553 (t * 26 + r) = v) : Full C' ρ D' σ kp rc nw bw br ∧ Opn C' ρ D' rc t s len kd a1 a2 a3 φ N H K T := by
  obtain ⟨hcat, cok, tc⟩ := ho
  obtain ⟨c1, c2, c3', c4⟩ := Cat_loc hcat (C' := C') (fun x i hx => hC x i (by omega) (by omega) (by omega))
  have ed : dcd D' t = dcd D t := dcd_eq (fun i => hD _ _ (by omega) (by omega) (by omega))
  obtain ⟨t1, t2, t3, t4, t5, t6, t7, t8, t9, t10, t11, t12, t13, t14, t15⟩ := tc
  have hka := cok.2.2.2.2.2.1 a t9
  have hbd := chd_b (fun i hi => (cok.2.2.2.2.2.1 i hi).2.1) (N a) hka.2.2.2 hka.2.1
  have hl10 := hka.2.1
  have l1 := @nl_le (N a)
  have cR : ∀ i, i ≠ 3 → i ≠ 5 → i ≠ 11 → C' (92 + 71 * t) i = C (92 + 71 * t) i := fun i q1 q2 q3 => hC _ _ (by omega) (by omega) (by omega)
  have cA : ∀ x i, 92 + 71 * t + 7 ≤ x → C' x i = C x i := fun x i q => hC _ _ (by omega) (by omega) (by omega)
  have dA : ∀ x i, x ≠ 552 → x ≠ 553 → x ≠ 554 → x ≠ 555 → x ≠ 557 → x ≠ 558 → D' x i = D x i := fun x i q1 q2 q3 q4 q5 q6 => hD _ _ (by omega) (by omega) (by omega)
  have tc' : Tc C' D' rc t s (C a2) (C a3) len φ N H T := by
    refine ⟨t1, by rw [cR _ (by omega) (by omega) (by omega)]; exact t2, by rw [dA _ _ (by omega) (by omega) (by omega) (by omega) (by omega) (by omega)]; exact t3, by rw [cR _ (by omega) (by omega) (by omega)]; exact t4, by rw [cR _ (by omega) (by omega) (by omega), dA _ _ (by omega) (by omega) (by omega) (by omega) (by omega) (by omega)]; exact t5, by rw [cR _ (by omega) (by omega) (by omega), dA _ _ (by omega) (by omega) (by omega) (by omega) (by omega) (by omega)]; exact t6, by rw [cR _ (by omega) (by omega) (by omega), dA _ _ (by omega) (by omega) (by omega) (by omega) (by omega) (by omega)]; exact t7, fun k hk => ?_, hTl, c3, d52, ⟨by rw [hHT]; exact c5, by rw [hHT]; exact d55, fun i hi => absurd hi (by omega)⟩, ?_, ?_, ?_⟩
    · by_cases e : k = r
      · subst e; rw [c6, d53]
      · rw [hC _ _ (by omega) (by omega) (by omega), hD _ _ (by omega) (by omega) (by omega)]; exact t8 k hk
    · rw [hNT]
      refine ⟨c11, d58, d57, fun x hx => ?_⟩
      exact Ent_mv (t13.2.2.2 x (hmem x (List.mem_cons_of_mem _ hx))) (fun _ => ⟨cA _ _ (by omega), cA _ _ (by omega), fun y q1 q2 => dA _ _ (by omega) (by omega) (by omega) (by omega) (by omega) (by omega)⟩) (fun _ => dA _ _ (by omega) (by omega) (by omega) (by omega) (by omega) (by omega)) (fun _ => ⟨cA _ _ (by omega), cA _ _ (by omega), fun y q1 q2 => dA _ _ (by omega) (by omega) (by omega) (by omega) (by omega) (by omega)⟩)
    · intro es
      obtain ⟨p1, p2, p3⟩ := t14 es
      exact ⟨by rw [hNT, hnl]; exact p1, by rw [cR _ (by omega) (by omega) (by omega)]; exact p2, by rw [dA _ _ (by omega) (by omega) (by omega) (by omega) (by omega) (by omega)]; exact p3⟩
    · intro es
      obtain ⟨p1, ⟨p2, p3, hl, p4, p5, p6⟩, p7, p8, p9⟩ := t15 es
      rw [hNT, hnl]
      refine ⟨p1, ⟨by rw [cR _ (by omega) (by omega) (by omega)]; exact p2, fun j hj => ?_, hl, fun j hj => ?_, by rw [cR _ (by omega) (by omega) (by omega)]; exact p5, fun i hi h2 => by rw [cA _ _ (by omega)]; exact p6 i hi h2⟩, by rw [dA _ _ (by omega) (by omega) (by omega) (by omega) (by omega) (by omega)]; exact p7, by rw [cR _ (by omega) (by omega) (by omega), dA _ _ (by omega) (by omega) (by omega) (by omega) (by omega) (by omega)]; exact p8, by rw [cR _ (by omega) (by omega) (by omega), dA _ _ (by omega) (by omega) (by omega) (by omega) (by omega) (by omega)]; exact p9⟩
      · obtain ⟨⟨l1, l2⟩, l3, l4, ⟨ps, vs, ws, l5, l6⟩⟩ := p3 j hj
        exact ⟨⟨by rw [cA _ _ (by omega), dA _ _ (by omega) (by omega) (by omega) (by omega) (by omega) (by omega)]; exact l1, by rw [dA _ _ (by omega) (by omega) (by omega) (by omega) (by omega) (by omega)]; exact l2⟩, fun k hk => by rw [cA _ _ (by omega), dA _ _ (by omega) (by omega) (by omega) (by omega) (by omega) (by omega)]; exact l3 k hk, ⟨fun p hp => by rw [cA _ _ (by omega)]; exact l4.1 p hp, fun p hp => by rw [cA _ _ (by omega), dA 578 _ (by omega) (by omega) (by omega) (by omega) (by omega) (by omega), cA _ _ (by omega), dA 582 _ (by omega) (by omega) (by omega) (by omega) (by omega) (by omega)]; exact l4.2 p hp⟩, ps, vs, ws, RdC_mv l5 (cA _ _ (by omega)) (cA _ _ (by omega)) (fun k => ⟨cA _ _ (by omega), cA _ _ (by omega), cA _ _ (by omega)⟩), RdD_mv l6 (Nat.le_refl _) (fun p hp => ⟨dA _ _ (by omega) (by omega) (by omega) (by omega) (by omega) (by omega), dA _ _ (by omega) (by omega) (by omega) (by omega) (by omega) (by omega), dA _ _ (by omega) (by omega) (by omega) (by omega) (by omega) (by omega), dA _ _ (by omega) (by omega) (by omega) (by omega) (by omega) (by omega)⟩)⟩
      · obtain ⟨v1, v2, v3, v4⟩ := p4 j hj
        exact ⟨v1, by rw [dA _ _ (by omega) (by omega) (by omega) (by omega) (by omega) (by omega)]; exact v2, by rw [cA _ _ (by omega)]; exact v3, fun i hi => by rw [dA _ _ (by omega) (by omega) (by omega) (by omega) (by omega) (by omega)]; exact v4 i hi⟩
  have ho' : Opn C' ρ D' rc t s len kd a1 a2 a3 φ N H K T := ⟨c1, by rw [c2, c3', c4, ed]; exact cok, by rw [c3', c4]; exact tc'⟩
  have e8 : dpC C' t = dpC C t := by
    unfold dpC
    rw [cR _ (by omega) (by omega) (by omega)]
  clear t13 t14 t15 hbd cok
  have hdp10 := dpC_le (hF.2.2.2.2.2.2.2.1 t ht)
  refine ⟨Full_loc hF ht (fun x i h => hC x i (by omega) (by omega) (by omega)) (fun x i h => ?_) (Tc_Thr ho'.1 ho'.2.1 ho'.2.2) (cR _ (by omega) (by omega) (by omega)) (cR _ (by omega) (by omega) (by omega)) (dA _ _ (by omega) (by omega) (by omega) (by omega) (by omega) (by omega)) ?_ ?_, ho'⟩
  · obtain ⟨u1, -, u26, -, u64⟩ := wd_of h
    refine hD x i ?_ ?_ ?_
    · rintro ⟨q1, q2⟩
      exact u1 (by omega) q1
    · rintro ⟨q1, q2, q3⟩
      exact u64 q1 (by omega)
    · rintro ⟨q1, q2⟩
      exact u26 q1 (by omega)
  · rw [e8]
    exact Nat.le_of_eq (wsum_congr _ (fun j hj => cA _ _ (by omega)))
  · rw [e8]
    refine Nat.le_of_eq (rsum_congr _ (fun j hj => ?_))
    unfold rl
    rw [cA _ _ (by omega)]
/-- as rdy_T, at an instruction -/
theorem rdy_O {C4 D4 C5 D5 : ao_M} {ρ4 σ4 : ao_H} {kp' rc' dp B : Nat} {l : List (Nat × Nat)} (hF : FullP (fun u => u ≠ t) C ρ D σ kp rc nw bw br) (ht : t < 6) (hM : Md C ρ D rc t len kd a1 a2 a3 φ N H K l) (hL : LV0 C D ρ σ kp rc t dp C4 ρ4 D4 σ4 kp' rc') (hC5 : ∀ x i, ¬ (92 + 71 * t ≤ x ∧ x < 92 + 71 * t + 71) → C5 x i = C4 x i) (hD5 : ∀ x i, ¬ (551 ≤ x ∧ x ≤ 584 ∧ t * wd x ≤ i ∧ i < (t + 1) * wd x) → D5 x i = D4 x i)
    (c2 : C5 (92 + 71 * t) 2 = 1) (d51 : D5 551 t = 1) (c8 : C5 (92 + 71 * t) 8 = 0) (d56 : D5 556 t = 0) (cr : ∀ i, i ≠ 2 → i ≠ 3 → i ≠ 8 → i ≠ 11 → C5 (92 + 71 * t) i = C4 (92 + 71 * t) i) (dr : ∀ x, x = 555 ∨ 559 ≤ x ∧ x ≤ 564 → D5 x t = D4 x t) (hR : Regs C5 D5 t) (hBl : B ≤ len) (hHB : H B = 0) (hnB : nl (N B) = 0) (c3 : C5 (92 + 71 * t) 3 = nI B) (d52 : D5 552 t = nI (φ B))
    (c11 : C5 (92 + 71 * t) 11 = nI (nt (N B))) (d58 : D5 558 t = nI (nt (N B))) (d57 : D5 557 t = nI (ns (N B))) (hE : ∀ x ∈ N B, Ent C5 D5 t (C a2) (C a3) len φ N x) : Opn C5 ρ4 D5 rc' t 1 len kd a1 a2 a3 φ N H K B := by
  obtain ⟨k1, k3, k4, ed, k5, k2⟩ := lo_cat hF ht hM hL hC5 hD5
  obtain ⟨-, -, ⟨g1, g2, g3, g4, g5, g6, g7, g8, g9⟩, -⟩ := hM
  obtain ⟨-, ⟨r1, r2, -⟩, ⟨e1, -, -, e4, -⟩, -⟩ := hL
  refine ⟨k1, k5, Or.inl rfl, c2, d51, ?_, ?_, ?_, ?_, hR, hBl, c3, d52, ?_, ?_, fun _ => ⟨hnB, c8, d56⟩, fun e => absurd e (by omega)⟩
  · rw [cr _ (by omega) (by omega) (by omega) (by omega), r1 _ (by omega) (by omega) (by omega) (by omega) (by omega) (by omega)]; exact g3
  · rw [cr _ (by omega) (by omega) (by omega) (by omega), r1 _ (by omega) (by omega) (by omega) (by omega) (by omega) (by omega), dr _ (by omega), e1 _ (by omega) (by omega)]; exact g4
  · rw [cr _ (by omega) (by omega) (by omega) (by omega), r1 _ (by omega) (by omega) (by omega) (by omega) (by omega) (by omega), dr _ (by omega), e1 _ (by omega) (by omega)]; exact g5
  · rw [cr _ (by omega) (by omega) (by omega) (by omega), r1 _ (by omega) (by omega) (by omega) (by omega) (by omega) (by omega), dr _ (by omega), e1 _ (by omega) (by omega)]; exact g6
  · rw [hHB]
    exact ⟨by rw [cr _ (by omega) (by omega) (by omega) (by omega)]; exact r2, by rw [dr _ (by omega)]; exact e4, fun i hi => absurd hi (by omega)⟩
  · rw [k3, k4]
    exact ⟨c11, d58, d57, hE⟩
end Stb1
