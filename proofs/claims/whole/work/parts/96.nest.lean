set_option linter.unusedSimpArgs false
set_option linter.unusedVariables false
/-! ===== instructions that open and close nests, but for levels ===== -/
theorem chd_lt {N : Ns} {op : Fn} {len : Nat} : ∀ (s : List (Nat × Nat)), chd N op len s → ∀ x ∈ s, (x.1 = 0 → nl (N x.2) < nl s) ∧ (x.1 = 0 ∨ x.1 = 1 → ns (N x.2) < ns s) ∧ (x.1 = 2 → nt (N x.2) < nt s) ∧ (x.1 = 0 ∨ x.1 = 1 ∨ x.1 = 2) := by
  intro s
  induction s with
  | nil => intro _ x hx; exact absurd hx (by simp)
  | cons e s ih =>
    intro hcs x hx
    obtain ⟨g1, g2, g3, g4⟩ := hcs
    have m1 : nl s ≤ nl (e :: s) := by simp [nl, List.countP_cons]
    have m2 : ns s ≤ ns (e :: s) := by simp [ns, List.countP_cons]
    have m3 : nt s ≤ nt (e :: s) := by simp [nt, List.countP_cons]
    rcases List.mem_cons.mp hx with rfl | hx
    · obtain ⟨x1, x2⟩ := x
      dsimp only at g1 g3 ⊢
      rw [← g1]
      refine ⟨fun e0 => ?_, fun e0 => ?_, fun e0 => ?_, by omega⟩
      · subst e0; rw [nl_c0]; omega
      · rcases e0 with rfl | rfl
        · rw [ns_c0]; omega
        · rw [ns_c1]; omega
      · subst e0; rw [nt_c2]; omega
    · obtain ⟨h1, h2, h3, h4⟩ := ih g4 x hx
      exact ⟨fun e => by have := h1 e; omega, fun e => by have := h2 e; omega, fun e => by have := h3 e; omega, h4⟩
theorem Ent_mv {C C' D D' : ao_M} {t len : Nat} {fi se : Fn} {φ : Nat → Nat} {N : Ns} {x : Nat × Nat} (h : Ent C D t fi se len φ N x) (h0 : x.1 = 0 → C' (92 + 71 * t + 8 + 6 * nl (N x.2)) 8 = C (92 + 71 * t + 8 + 6 * nl (N x.2)) 8 ∧ C' (92 + 71 * t + 8 + 6 * nl (N x.2)) 11 = C (92 + 71 * t + 8 + 6 * nl (N x.2)) 11 ∧ ∀ a, 570 ≤ a → a ≤ 574 → D' a (t * 12 + nl (N x.2)) = D a (t * 12 + nl (N x.2)))
    (h1 : x.1 = 0 ∨ x.1 = 1 → D' 565 (t * 12 + ns (N x.2)) = D 565 (t * 12 + ns (N x.2))) (h2 : x.1 = 2 → C' (92 + 71 * t + 68) (nt (N x.2)) = C (92 + 71 * t + 68) (nt (N x.2)) ∧ C' (92 + 71 * t + 69) (nt (N x.2)) = C (92 + 71 * t + 69) (nt (N x.2)) ∧ ∀ a, 566 ≤ a → a ≤ 569 → D' a (t * 12 + nt (N x.2)) = D a (t * 12 + nt (N x.2))) : Ent C' D' t fi se len φ N x := by
  obtain ⟨a, b, c⟩ := h
  refine ⟨fun e => ?_, fun e => ?_, fun e => ?_⟩
  · obtain ⟨g1, g2, g3⟩ := h0 e
    rw [g1, g2, g3 570 (by omega) (by omega), g3 571 (by omega) (by omega), g3 572 (by omega) (by omega), g3 573 (by omega) (by omega), g3 574 (by omega) (by omega), h1 (Or.inl e)]
    exact a e
  · rw [h1 (Or.inr e)]; exact b e
  · obtain ⟨g1, g2, g3⟩ := h2 e
    rw [g1, g2, g3 566 (by omega) (by omega), g3 567 (by omega) (by omega), g3 568 (by omega) (by omega), g3 569 (by omega) (by omega)]
    exact c e
/-- the nest changes, its levels don't -/
theorem nest_go {C D C' D' : ao_M} {ρ σ : ao_H} {kp rc nw bw br t s len kd a1 a2 a3 a a' : Nat} {φ : Nat → Nat} {N : Ns} {H K : Nat → Nat} (hF : Full C ρ D σ kp rc nw bw br) (ht : t < 6) (ho : Opn C ρ D rc t s len kd a1 a2 a3 φ N H K a) (hnl : nl (N a') = nl (N a)) (hH : H a' = H a) (ha' : a' ≤ len)
    (hC : ∀ x i, x ≠ 92 + 71 * t + 68 → x ≠ 92 + 71 * t + 69 → ¬ (x = 92 + 71 * t ∧ (i = 3 ∨ i = 11)) → C' x i = C x i) (hD : ∀ x i, ¬ (565 ≤ x ∧ x ≤ 569 ∧ t * 12 ≤ i ∧ i < t * 12 + 12) → ¬ (i = t ∧ (x = 552 ∨ x = 557 ∨ x = 558)) → D' x i = D x i)
    (h3 : C' (92 + 71 * t) 3 = nI a') (h52 : D' 552 t = nI (φ a')) (hctl : Ctl C' D' t (C a2) (C a3) len φ N (N a')) : Full C' ρ D' σ kp rc nw bw br ∧ Opn C' ρ D' rc t s len kd a1 a2 a3 φ N H K a' := by
  obtain ⟨hcat, cok, tc⟩ := ho
  obtain ⟨c1, c2, c3, c4⟩ := Cat_loc hcat (C' := C') (fun x i hx => hC x i (by omega) (by omega) (by omega))
  have ed : dcd D' t = dcd D t := dcd_eq (fun i => hD _ _ (by omega) (by omega))
  have hb10 : nl (N a) ≤ 10 := Nat.le_trans nl_le (cok.2.2.2.2.2.1 a tc.2.2.2.2.2.2.2.2.1).2.1
  have hh40 := (cok.2.2.2.2.2.1 a tc.2.2.2.2.2.2.2.2.1).2.2.1
  obtain ⟨b1, b2, b3, b4, b5, b6, b7, b8, b9, b10, b11, b12, b13, b14, b15⟩ := tc
  have e : ∀ i, i ≠ 3 → i ≠ 11 → C' (92 + 71 * t) i = C (92 + 71 * t) i := fun i h1 h2 => hC _ _ (by omega) (by omega) (by omega)
  have ed1 : ∀ x, x ≠ 552 → x ≠ 557 → x ≠ 558 → x < 565 → D' x t = D x t := fun x h1 h2 h3 h4 => hD _ _ (by omega) (by omega)
  have el : ∀ x i, 92 + 71 * t < x → x < 92 + 71 * t + 68 → C' x i = C x i := fun x i h1 h2 => hC _ _ (by omega) (by omega) (by omega)
  have eh : ∀ x i, 570 ≤ x ∨ x = 553 ∨ x = 554 → D' x i = D x i := fun x i h1 => hD _ _ (by omega) (by omega)
  have tc' : Tc C' D' rc t s (C a2) (C a3) len φ N H a' := by
    refine ⟨b1, by rw [e _ (by omega) (by omega)]; exact b2, by rw [ed1 _ (by omega) (by omega) (by omega) (by omega)]; exact b3, by rw [e _ (by omega) (by omega)]; exact b4, by rw [e _ (by omega) (by omega), ed1 _ (by omega) (by omega) (by omega) (by omega)]; exact b5, by rw [e _ (by omega) (by omega), ed1 _ (by omega) (by omega) (by omega) (by omega)]; exact b6, by rw [e _ (by omega) (by omega), ed1 _ (by omega) (by omega) (by omega) (by omega)]; exact b7, fun k hk => by rw [el _ _ (by omega) (by omega), eh _ _ (by omega)]; exact b8 k hk, ha', h3, h52, ?_, hctl, ?_, ?_⟩
    · rw [hH]
      exact ⟨by rw [e _ (by omega) (by omega)]; exact b12.1, by rw [ed1 _ (by omega) (by omega) (by omega) (by omega)]; exact b12.2.1, fun i hi => by rw [el _ _ (by omega) (by omega), eh _ _ (by omega)]; exact b12.2.2 i hi⟩
    · rw [hnl, e _ (by omega) (by omega), ed1 _ (by omega) (by omega) (by omega) (by omega)]; exact b14
    · rw [hnl, e _ (by omega) (by omega), e _ (by omega) (by omega), ed1 _ (by omega) (by omega) (by omega) (by omega), ed1 _ (by omega) (by omega) (by omega) (by omega), ed1 _ (by omega) (by omega) (by omega) (by omega)]
      intro es
      obtain ⟨g1, ⟨g2, g3, hl, g4, g5, g6⟩, g7, g8, g9⟩ := b15 es
      refine ⟨g1, ⟨by rw [e _ (by omega) (by omega)]; exact g2, fun j hj => ?_, hl, fun j hj => ?_, ?_, fun i hi h2 => ?_⟩, g7, g8, g9⟩
      · obtain ⟨⟨l1, l2⟩, l3, l4, ⟨ps, vs, ws, l5, l6⟩⟩ := g3 j hj
        refine ⟨⟨?_, ?_⟩, fun k hk => ?_, ⟨fun p hp => ?_, fun p hp => ?_⟩, ps, vs, ws, RdC_mv l5 (el _ _ (by omega) (by omega)) (el _ _ (by omega) (by omega)) (fun i => ⟨el _ _ (by omega) (by omega), el _ _ (by omega) (by omega), el _ _ (by omega) (by omega)⟩), RdD_mv l6 (Nat.le_refl _) (fun p hp => ⟨eh _ _ (by omega), eh _ _ (by omega), eh _ _ (by omega), eh _ _ (by omega)⟩)⟩
        · rw [el _ _ (by omega) (by omega), eh _ _ (by omega)]; exact l1
        · rw [eh _ _ (by omega)]; exact l2
        · rw [el _ _ (by omega) (by omega), eh _ _ (by omega)]; exact l3 k hk
        · rw [el _ _ (by omega) (by omega)]; exact l4.1 p hp
        · rw [el _ _ (by omega) (by omega), eh _ _ (by omega), eh _ _ (by omega), el _ _ (by omega) (by omega)]; exact l4.2 p hp
      · obtain ⟨a1, a2, a3, a4⟩ := g4 j hj
        refine ⟨a1, by rw [eh _ _ (by omega)]; exact a2, by rw [el _ _ (by omega) (by omega)]; exact a3, fun i hi => by rw [eh _ _ (by omega)]; exact a4 i hi⟩
      · rw [e _ (by omega) (by omega)]; exact g5
      · rw [hC _ _ (by omega) (by omega) (by omega)]; exact g6 i hi h2
  have ho' : Opn C' ρ D' rc t s len kd a1 a2 a3 φ N H K a' := ⟨c1, by rw [c2, c3, c4, ed]; exact cok, by rw [c3, c4]; exact tc'⟩
  refine ⟨Full_loc hF ht (fun x i h => hC x i (by omega) (by omega) (by omega)) (fun x i h => ?_) (Tc_Thr ho'.1 ho'.2.1 ho'.2.2) (hC _ _ (by omega) (by omega) (by omega)) (hC _ _ (by omega) (by omega) (by omega)) (hD _ _ (by omega) (by omega)) ?_ ?_, ho'⟩
  · refine hD x i ?_ ?_
    · rintro ⟨q0, q00, q1, q2⟩
      have : wd x = 12 := by
        unfold wd
        rw [if_neg (by omega), if_neg (by omega), if_neg (by omega), if_neg (by omega), if_neg (by omega), if_pos (by omega)]
      exact h ⟨by omega, by omega, by rw [this]; exact q1, by rw [this]; omega⟩
    · rintro ⟨rfl, q⟩
      have : wd x = 1 := by
        unfold wd
        rw [if_neg (by omega), if_neg (by omega), if_neg (by omega), if_neg (by omega), if_neg (by omega), if_neg (by omega)]
      exact h ⟨by omega, by omega, by rw [this]; omega, by rw [this]; omega⟩
  · have e8 : dpC C' t = dpC C t := by
      unfold dpC
      rw [hC _ _ (by omega) (by omega) (by omega)]
    rw [e8]
    refine Nat.le_of_eq (wsum_congr _ (fun j hj => hC _ _ ?_ ?_ (by omega)))
    all_goals
      have hdp : dpC C t ≤ 10 := by
        unfold dpC
        rcases b1 with es | es
        · rw [(b14 es).2.1]; decide
        · rw [(b15 es).2.1.1, n_cl (by omega)]; exact hb10
      omega
  · have e8 : dpC C' t = dpC C t := by
      unfold dpC
      rw [hC _ _ (by omega) (by omega) (by omega)]
    rw [e8]
    refine Nat.le_of_eq (rsum_congr _ (fun j hj => ?_))
    unfold rl
    have hdp : dpC C t ≤ 10 := by
      unfold dpC
      rcases b1 with es | es
      · rw [(b14 es).2.1]; decide
      · rw [(b15 es).2.1.1, n_cl (by omega)]; exact hb10
    rw [hC _ _ (by omega) (by omega) (by omega)]
