set_option linter.unusedSimpArgs false
set_option linter.unusedVariables false
/-! ===== the parts of a look within a block ===== -/
/-- in the middle of a step: the counter and the stack moved -/
theorem mid_of {C D C1 D1 : ao_M} {ρ σ : ao_H} {kp rc nw bw br t s len kd a1 a2 a3 a : Nat} {φ : Nat → Nat} {N : Ns} {H K : Nat → Nat} (hF : Full C ρ D σ kp rc nw bw br) (ht : t < 6) (ho : Opn C ρ D rc t s len kd a1 a2 a3 φ N H K a) (es : s = 2)
    (hC : ∀ x i, ¬ (x = 92 + 71 * t ∧ (i = 3 ∨ i = 5)) → x ≠ 92 + 71 * t + 5 → C1 x i = C x i) (hD : ∀ x i, ¬ (i = t ∧ (x = 552 ∨ x = 555)) → ¬ (x = 554 ∧ t * 64 ≤ i ∧ i < t * 64 + 64) → D1 x i = D x i) : FullP (fun u => u ≠ t) C1 ρ D1 σ kp rc nw bw br ∧ Md C1 ρ D1 rc t len kd a1 a2 a3 φ N H K (N a) := by
  subst es
  have hM := Md_of ho rfl
  have hF' := hF
  obtain ⟨-, f5, -, f8, f9, f10, f11, f12, f13, -, f15, f16⟩ := hF
  have hdp := dpC_le (f12 t ht)
  clear f12
  obtain ⟨⟨z, ez, z9⟩, ⟨z', ez', z9'⟩⟩ := Rpl_z f5
  have hs : ∀ u, u < 6 → C1 (92 + 71 * u) 2 = C (92 + 71 * u) 2 ∧ C1 (92 + 71 * u) 15 = C (92 + 71 * u) 15 ∧ D1 563 u = D 563 u := fun u hu => ⟨hC _ _ (by omega) (by omega), hC _ _ (by omega) (by omega), hD _ _ (by omega) (by omega)⟩
  have e8 : dpC C1 t = dpC C t := by
    unfold dpC
    rw [hC _ _ (by omega) (by omega)]
  have ew : wsum C1 t (dpC C t) = wsum C t (dpC C t) := wsum_congr _ (fun j hj => hC _ _ (by omega) (by omega))
  have er : rsum C1 t (dpC C t) = rsum C t (dpC C t) := rsum_congr _ (fun j hj => by unfold rl; rw [hC _ _ (by omega) (by omega)])
  have hk : cntK C1 = cntK C := cntK_e (fun p hp => hC _ _ (by omega) (by omega))
  refine ⟨P_pl (Full_P hF' (fun u => u ≠ t)) ht (HxC_refl ez (by unfold rmC; rw [hC _ _ (by omega) (by omega)])) (HxD_refl ez') (fun x i h1 h2 h3 h4 h5 => hC x i (by omega) (by omega)) (fun x i h1 h2 h3 h4 h5 h6 => hD x i ?_ ?_) (Rpl_cell (k := 0) f5 (fun x i hx => hC x i (by omega) (by omega)) (fun x i hx => hD x i (by omega) (by omega))) (fun q p hp => by rw [hC _ _ (by omega) (by omega)]; exact f8 q p hp) (by rw [hD _ _ (by omega) (by omega)]; exact f11) (Nat.le_refl _) (Rsd_fr f9 (fun x i q1 q2 => hC x i (by omega) (by omega)) (hD _ _ (by omega) (by omega)) (fun x i q => hD x i (by omega) (by omega))) (Rrc_fr f10 (fun x i q1 q2 => hC x i (by omega) (by omega)) (hD _ _ (by omega) (by omega)) (fun x i q1 q2 => hD x i (by omega) (by omega))) (Bth_fr f13 (hD _ _ (by omega) (by omega)) (fun p => hC _ _ (by omega) (by omega)) hs) (by omega) (fun q => absurd rfl q) (fun q => by omega) (fun q => by rw [e8, ew]; exact Nat.le_refl _) (by rw [e8, er]; exact Nat.le_refl _) f15 f16, ?_⟩
  · rintro ⟨rfl, q⟩
    have hw1 : wd x = 1 := by
      unfold wd
      rw [if_neg (by omega), if_neg (by omega), if_neg (by omega), if_neg (by omega), if_neg (by omega), if_neg (by omega)]
    exact h4 ⟨by omega, by omega, by rw [hw1]; omega, by rw [hw1]; omega⟩
  · rintro ⟨rfl, q1, q2⟩
    exact h4 ⟨by omega, by omega, by show t * 64 ≤ i; omega, by show i < (t + 1) * 64; omega⟩
  · obtain ⟨hcat, cok, ⟨g1, g2, g3, g4, g5, g6, g7, g8, g9⟩, m4, m5, ⟨m6, m7, m8⟩, mI⟩ := hM
    have hbd := chd_b (fun i hi => (cok.2.2.2.2.2.1 i hi).2.1) (N a) m6 m7
    have l1 := @nl_le (N a)
    obtain ⟨k1, k2, k3, k4⟩ := Cat_loc hcat (C' := C1) (fun x i hx => hC x i (by omega) (by omega))
    have ed : dcd D1 t = dcd D t := dcd_eq (fun i => hD _ _ (by omega) (by omega))
    have cR : ∀ i, i ≠ 3 → i ≠ 5 → C1 (92 + 71 * t) i = C (92 + 71 * t) i := fun i q1 q2 => hC _ _ (by omega) (by omega)
    have cA : ∀ x i, 92 + 71 * t + 6 ≤ x → C1 x i = C x i := fun x i q => hC _ _ (by omega) (by omega)
    have dA : ∀ x i, x ≠ 552 → x ≠ 554 → x ≠ 555 → D1 x i = D x i := fun x i q1 q2 q3 => hD _ _ (by omega) (by omega)
    refine ⟨k1, by rw [k2, k3, k4, ed]; exact cok, ⟨by rw [cR _ (by omega) (by omega)]; exact g1, by rw [dA _ _ (by omega) (by omega) (by omega)]; exact g2, by rw [cR _ (by omega) (by omega)]; exact g3, by rw [cR _ (by omega) (by omega), dA _ _ (by omega) (by omega) (by omega)]; exact g4, by rw [cR _ (by omega) (by omega), dA _ _ (by omega) (by omega) (by omega)]; exact g5, by rw [cR _ (by omega) (by omega), dA _ _ (by omega) (by omega) (by omega)]; exact g6, by rw [cR _ (by omega) (by omega), dA _ _ (by omega) (by omega) (by omega)]; exact g7, by rw [cR _ (by omega) (by omega), dA _ _ (by omega) (by omega) (by omega)]; exact g8, by rw [dA _ _ (by omega) (by omega) (by omega)]; exact g9⟩, fun k hk => by rw [cA _ _ (by omega), dA _ _ (by omega) (by omega) (by omega)]; exact m4 k hk, ?_, ⟨by rw [k2]; exact m6, m7, m8⟩, ?_⟩
    · rw [k3, k4]
      refine ⟨by rw [cR _ (by omega) (by omega)]; exact m5.1, by rw [dA _ _ (by omega) (by omega) (by omega)]; exact m5.2.1, by rw [dA _ _ (by omega) (by omega) (by omega)]; exact m5.2.2.1, fun x hx => ?_⟩
      exact Ent_mv (m5.2.2.2 x hx) (fun e0 => ⟨cA _ _ (by omega), cA _ _ (by omega), fun y q1 q2 => dA _ _ (by omega) (by omega) (by omega)⟩) (fun _ => dA _ _ (by omega) (by omega) (by omega)) (fun _ => ⟨cA _ _ (by omega), cA _ _ (by omega), fun y q1 q2 => dA _ _ (by omega) (by omega) (by omega)⟩)
    · obtain ⟨I8, IL, IH⟩ := mI
      refine ⟨by rw [cR _ (by omega) (by omega)]; exact I8, fun i hi => ?_, ?_⟩
      · obtain ⟨⟨l1, l2⟩, l3, l4, ⟨ps, vs, ws, l5, l6⟩⟩ := IL i hi
        refine ⟨⟨by rw [cA _ _ (by omega), dA _ _ (by omega) (by omega) (by omega)]; exact l1, by rw [dA _ _ (by omega) (by omega) (by omega)]; exact l2⟩, fun k hk => by rw [cA _ _ (by omega), dA _ _ (by omega) (by omega) (by omega)]; exact l3 k hk, ⟨fun p hp => by rw [cA _ _ (by omega)]; exact l4.1 p hp, fun p hp => by rw [cA _ _ (by omega), dA 578 _ (by omega) (by omega) (by omega), cA _ _ (by omega), dA 582 _ (by omega) (by omega) (by omega)]; exact l4.2 p hp⟩, ps, vs, ws, RdC_mv l5 (cA _ _ (by omega)) (cA _ _ (by omega)) (fun k => ⟨cA _ _ (by omega), cA _ _ (by omega), cA _ _ (by omega)⟩), RdD_mv l6 (Nat.le_refl _) (fun p hp => ⟨dA _ _ (by omega) (by omega) (by omega), dA _ _ (by omega) (by omega) (by omega), dA _ _ (by omega) (by omega) (by omega), dA _ _ (by omega) (by omega) (by omega)⟩)⟩
      · obtain ⟨hl', h1, h2, h3'⟩ := IH
        refine ⟨hl', fun i hi => ?_, by rw [cR _ (by omega) (by omega)]; exact h2, fun i hi h200 => by rw [cA _ _ (by omega)]; exact h3' i hi h200⟩
        obtain ⟨v1, v2, v3, v4⟩ := h1 i hi
        exact ⟨v1, by rw [dA _ _ (by omega) (by omega) (by omega)]; exact v2, by rw [cA _ _ (by omega)]; exact v3, fun k hk => by rw [dA _ _ (by omega) (by omega) (by omega)]; exact v4 k hk⟩
/-- a read is added to the innermost level, on both sides -/
theorem rd_add {C D : ao_M} {ρ σ : ao_H} {rc t j p : Nat} {v w : Int32} (f2 : ShB ρ) (f4 : ShD σ) (ht : t < 6) (hj : j < 10) (hp : p < 26) (h56 : D 556 t = nI (j + 1)) (h64 : D 537 64 = nI rc) (hw : w = D 543 p) (hr : Rd C D rc t j) : ∃ C3 D3 rc', gX3_addRead (92 + 71 * t + 8 + 6 * j) (nI p) v w C ρ = some C3 ∧ gX12_addRead 537 (nI t) (nI p) v D σ = some D3 ∧ Rd C3 D3 rc' t j ∧ D3 537 64 = nI rc' ∧ rc ≤ rc' ∧ rc' + (j + 1) * rl C3 t j ≤ rc + (j + 1) * rl C t j + 11 ∧
    (∀ x i, ¬ (x = 92 + 71 * t + 8 + 6 * j ∧ (i = 3 ∨ i = 4)) → ¬ (92 + 71 * t + 8 + 6 * j < x ∧ x ≤ 92 + 71 * t + 8 + 6 * j + 3) → C3 x i = C x i) ∧ (∀ x i, ¬ (x = 537 ∧ i = 64) → ¬ ((x = 577 ∨ x = 579 ∨ x = 580 ∨ x = 581) ∧ (t * 12 + j) * 26 ≤ i ∧ i < (t * 12 + j) * 26 + 26) → D3 x i = D x i) := by
  obtain ⟨ps, vs, ws, rC, rD⟩ := hr
  have hl := LvS_of f2 ht hj
  by_cases hm : p ∈ ps
  · exact ⟨C, D, rc, ca_old hl rC hp hm, da_old f4 ht (by omega) h56 rD hp hm, ⟨ps, vs, ws, rC, rD⟩, h64, Nat.le_refl _, by omega, fun _ _ _ _ => rfl, fun _ _ _ _ => rfl⟩
  · obtain ⟨c1, c2⟩ := ca_new (v := v) (w := w) hl rC hp hm
    obtain ⟨d1, d2⟩ := da_new (v := v) f4 ht (by omega) h56 h64 rD hp hm
    rw [← hw] at d2
    refine ⟨_, _, rc + 1, c1, d1, ⟨_, _, _, c2, d2⟩, ?_, by omega, ?_, fun x i h1 h2 => ?_, fun x i h1 h2 => ?_⟩
    · unfold dAdd
      rw [u_eq]
    · have e1 : rl (cAdd (92 + 71 * t + 8 + 6 * j) p ps.length v w C) t j = ps.length + 1 := by
        have hlen := RdC_len c2
        unfold rl
        rw [c2.1]
        simp only [List.length_append, List.length_cons, List.length_nil] at hlen ⊢
        rw [n_cl (by omega)]
      have e0 : rl C t j = ps.length := by
        have hlen := RdC_len rC
        unfold rl
        rw [rC.1, n_cl (by omega)]
      rw [e1, e0, Nat.mul_add]
      omega
    · unfold cAdd
      simp (disch := omega) only [u_ne]
    · unfold dAdd
      simp (disch := omega) only [u_ne]
section Lk
variable {C D : ao_M} {ρ σ : ao_H} {kp rc nw bw br t len kd a1 a2 a3 a : Nat} {φ : Nat → Nat} {N : Ns} {H K : Nat → Nat}
/-- the end of a look: v is pushed -/
theorem see_end {C3 D3 : ao_M} {rc' j p : Nat} {v : Int32} (hF : FullP (fun u => u ≠ t) C ρ D σ kp rc nw bw br) (ht : t < 6) (hM : Md C ρ D rc t len kd a1 a2 a3 φ N H K (N a)) (hj : nl (N a) = j + 1) (ha : a < len) (hx : nxt φ N H K a 1 (H a + 1)) (hbr : br + 11 ≤ 100000000)
    (c3 : C (92 + 71 * t) 3 = nI (a + 1)) (d52 : D 552 t = nI (φ a)) (hS : Stk C D t (H a))
    (hC : ∀ x i, ¬ (x = 92 + 71 * t ∧ i = 14) → ¬ (x = 92 + 71 * t + 8 + 6 * j ∧ (i = 3 ∨ i = 4)) → ¬ (92 + 71 * t + 8 + 6 * j < x ∧ x ≤ 92 + 71 * t + 8 + 6 * j + 3) → C3 x i = C x i) (hD : ∀ x i, ¬ (x = 537 ∧ (i = 64 ∨ i = 77)) → ¬ (x = 560 ∧ i = t) → ¬ ((x = 577 ∨ x = 579 ∨ x = 580 ∨ x = 581) ∧ (t * 12 + j) * 26 ≤ i ∧ i < (t * 12 + j) * 26 + 26) → D3 x i = D x i)
    (h77 : D3 537 77 = v) (h14 : C3 (92 + 71 * t) 14 = D3 560 t) (hRd : Rd C3 D3 rc' t j) (h64 : D3 537 64 = nI rc') (hrr : rc ≤ rc') (hr : rc' + (j + 1) * rl C3 t j ≤ rc + (j + 1) * rl C t j + 11) :
    ∃ Cf, gX7_push (92 + 71 * t) v C3 ρ = some Cf ∧ hv (fun n => fX12_doLook n 72 537 (nI t) (nI p) 0 D3 σ) (fun w => EndP kp rc' nw bw (br + 11) (0, Cf, ρ) w) := by
  have f1 := hF.1.1
  have f2 := hF.1.2.1
  have f4 := hF.1.2.2.2
  have hR := RnS_of f2 ht
  obtain ⟨j1, j2, j3, j4⟩ := hx
  have hM' := hM
  have hF' := hF
  obtain ⟨-, f5, -, -, -, -, -, -, -, -, f15, f16⟩ := hF
  obtain ⟨hcat, cok, ⟨g1, g2, g3, g4, g5, g6, g7, g8, g9⟩, m4, m5, ⟨m6, m7, m8⟩, mI⟩ := hM
  have hW := (mI.2.1 j (by omega)).2.2.1
  have l1 := @nl_le (N a)
  have hh := (cok.2.2.2.2.2.1 a (by omega)).2.2.1
  clear mI m5 m6 cok
  obtain ⟨s5, s55, sE⟩ := hS
  have c5 : C3 (92 + 71 * t) 5 = nI (H a) := by rw [hC _ _ (by omega) (by omega) (by omega)]; exact s5
  have d55 : D3 555 t = nI (H a) := by rw [hD _ _ (by omega) (by omega) (by omega)]; exact s55
  have d52' : D3 552 t = nI (φ a) := by rw [hD _ _ (by omega) (by omega) (by omega)]; exact d52
  refine ⟨_, c_push hR c5 (by omega), ?_⟩
  have fin : EndP kp rc' nw bw (br + 11) (0, ao_u (ao_u C3 (92 + 71 * t + 5) (H a) v) (92 + 71 * t) 5 (nI (H a + 1)), ρ) (0, ao_u (ao_u (ao_u D3 554 (t * 64 + H a) v) 555 t (nI (H a + 1))) 552 t (nI (φ a + 1)), σ) := by
    clear f1 f2 f4 hR
    refine ⟨rfl, (show ¬ (0 : Int32) < 0 by decide), ?_⟩
    show Full (ao_u (ao_u C3 (92 + 71 * t + 5) (H a) v) (92 + 71 * t) 5 (nI (H a + 1))) ρ (ao_u (ao_u (ao_u D3 554 (t * 64 + H a) v) 555 t (nI (H a + 1))) 552 t (nI (φ a + 1))) σ kp rc' nw bw (br + 11)
    have c6 : ∀ x i, ¬ (x = 92 + 71 * t ∧ i = 5) → x ≠ 92 + 71 * t + 5 → ao_u (ao_u C3 (92 + 71 * t + 5) (H a) v) (92 + 71 * t) 5 (nI (H a + 1)) x i = C3 x i := fun x i q1 q2 => by rw [u_ne (by omega), u_ne (by omega)]
    have d6 : ∀ x i, ¬ (i = t ∧ (x = 552 ∨ x = 555)) → x ≠ 554 → ao_u (ao_u (ao_u D3 554 (t * 64 + H a) v) 555 t (nI (H a + 1))) 552 t (nI (φ a + 1)) x i = D3 x i := fun x i q1 q2 => by rw [u_ne (by omega), u_ne (by omega), u_ne (by omega)]
    have hRd' : Rd (ao_u (ao_u C3 (92 + 71 * t + 5) (H a) v) (92 + 71 * t) 5 (nI (H a + 1))) (ao_u (ao_u (ao_u D3 554 (t * 64 + H a) v) 555 t (nI (H a + 1))) 552 t (nI (φ a + 1))) rc' t j := by
      obtain ⟨ps, vs, ws, r1, r2⟩ := hRd
      exact ⟨ps, vs, ws, RdC_mv r1 (c6 _ _ (by omega) (by omega)) (c6 _ _ (by omega) (by omega)) (fun k => ⟨c6 _ _ (by omega) (by omega), c6 _ _ (by omega) (by omega), c6 _ _ (by omega) (by omega)⟩), RdD_mv r2 (Nat.le_refl _) (fun q hq => ⟨d6 _ _ (by omega) (by omega), d6 _ _ (by omega) (by omega), d6 _ _ (by omega) (by omega), d6 _ _ (by omega) (by omega)⟩)⟩
    refine in_fin (a' := a + 1) (j := j) hF' ht hM' hj j2 (by omega) (fun x i q1 q2 q3 q4 q5 q6 => by rw [c6 x i (by omega) (by omega)]; exact hC x i (by omega) (by omega) (by omega)) (fun x i q1 q2 q3 q4 q5 q6 => ?_) ?_ (fun q hq => Or.inl ?_) ?_ ?_ ?_ ?_ ?_ hRd' ?_ hrr (fun _ => ?_) (fun _ => ?_) ?_ f15 hbr
    · by_cases e54 : x = 554
      · subst e54
        rw [u_n1 (by omega), u_n1 (by omega), u_n2 (by omega)]
        exact hD _ _ (by omega) (by omega) (by omega)
      · rw [d6 x i (by omega) e54]
        exact hD x i (by omega) (by omega) (by omega)
    · refine Rpl_cell (k := 0) f5 (fun x i hx => ?_) (fun x i hx => ?_)
      · rw [c6 x i (by omega) (by omega)]; exact hC x i (by omega) (by omega) (by omega)
      · rw [d6 x i (by omega) (by omega)]; exact hD x i (by omega) (by omega) (by omega)
    · rw [c6 _ _ (by omega) (by omega)]; exact hC _ _ (by omega) (by omega) (by omega)
    · rw [c6 _ _ (by omega) (by omega), hC _ _ (by omega) (by omega) (by omega)]; exact c3
    · rw [u_eq, j1]
    · rw [j3]
      refine Stk_push ⟨s5, s55, sE⟩ u_eq (by rw [u_n1 (by omega), u_eq]) (v := v) (fun i hi => ?_) (fun i hi => ?_)
      · by_cases e : i = H a
        · rw [if_pos e, e, u_n1 (by omega), u_eq]
        · rw [if_neg e, u_n1 (by omega), u_n2 e, hC _ _ (by omega) (by omega) (by omega)]
      · by_cases e : i = H a
        · rw [if_pos e, e, u_n1 (by omega), u_n1 (by omega), u_eq]
        · rw [if_neg e, u_n1 (by omega), u_n1 (by omega), u_n2 (by omega), hD _ _ (by omega) (by omega) (by omega)]
    · rw [c6 _ _ (by omega) (by omega), d6 _ _ (by omega) (by omega)]; exact h14
    · refine ⟨fun q hq => ?_, fun q hq => ?_⟩
      · rw [c6 _ _ (by omega) (by omega), hC _ _ (by omega) (by omega) (by omega)]; exact hW.1 q hq
      · rw [c6 _ _ (by omega) (by omega), hC (92 + 71 * t + 8 + 6 * j) 6 (by omega) (by omega) (by omega), d6 578 _ (by omega) (by omega), hD 578 _ (by omega) (by omega) (by omega), c6 _ _ (by omega) (by omega), hC (92 + 71 * t + 8 + 6 * j + 4) q (by omega) (by omega) (by omega), d6 582 _ (by omega) (by omega), hD 582 _ (by omega) (by omega) (by omega)]
        exact hW.2 q hq
    · rw [d6 _ _ (by omega) (by omega)]; exact h64
    · have : cntK (ao_u (ao_u C3 (92 + 71 * t + 5) (H a) v) (92 + 71 * t) 5 (nI (H a + 1))) = cntK C := cntK_e (fun q hq => by rw [c6 _ _ (by omega) (by omega)]; exact hC _ _ (by omega) (by omega) (by omega))
      omega
    · rw [c6 _ _ (by omega) (by omega), hC _ _ (by omega) (by omega) (by omega)]
      omega
    · have : rl (ao_u (ao_u C3 (92 + 71 * t + 5) (H a) v) (92 + 71 * t) 5 (nI (H a + 1))) t j = rl C3 t j := by
        unfold rl
        rw [c6 _ _ (by omega) (by omega)]
      rw [this]
      omega
  generalize EndP kp rc' nw bw (br + 11) (0, ao_u (ao_u C3 (92 + 71 * t + 5) (H a) v) (92 + 71 * t) 5 (nI (H a + 1)), ρ) = P at fin ⊢
  refine hv_up (fun _ => fX12_doLook.eq_2 ..) ?_
  try simp only [↓reduceIte, Nat.reduceEqDiff, Option.bind_some, ao_let, n_ell, f4, h77, d_push f4 ht d55 (show H a < 64 by omega), d52']
  try simp (disch := first | omega | assumption) only [↓reduceIte, Nat.reduceEqDiff, Option.bind_some, ao_let, t_le, f_le, t_lt, f_lt, f_eq, u_eq, u_n1, u_n2, n_cl, n_lt, n_le, n_eq, n_ltl, n_llt, n_lel, n_lle, n_eql, n_leq, n_add, n_mul, n_sub, n_addl, n_ladd, n_mull, n_lmul, n_subl, Int32.reduceLT, Int32.reduceLE, Int32.reduceAdd, Int32.reduceSub, Int32.reduceMul, Int32.reduceToNatClampNeg, not_false_eq_true, not_true_eq_false, or_false, false_or, or_self, and_self, false_and, true_and, and_false, and_true, true_or, or_true, Nat.reduceAdd, Nat.reduceMul, Nat.reduceLT, Nat.reduceLeDiff, ne_eq, n_ell, f4, h77, d_push f4 ht d55 (show H a < 64 by omega), d52']
  exact hv_some fin
end Lk
