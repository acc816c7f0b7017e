set_option linter.unusedSimpArgs false
set_option linter.unusedVariables false
theorem LW_up {m : Nat} {M : ao_M} {ρ : ao_H} (h : LW m M ρ) (hm : m + 1 ≤ 512) : LW (m + 1) M ρ := by
  obtain ⟨O, z, hz, h9, o1, o2, o3, o4, o5, o6, rm, hrm, erm, kp, rc, n, ⟨p1, F⟩, ⟨hRv, p3⟩, ⟨x1, x2, x3, x4, x5, x6, x7⟩, p5, p6⟩ := h
  have hn : n ≤ 20000 := by
    have := F.2.2.1.2.2.2.2.2.1
    omega
  exact ⟨O, z, hz, h9, o1, o2, o3, o4, o5, o6, rm, hrm, erm, kp, rc, n, ⟨p1, Full_br F (by omega) (by omega) (by omega) (by omega)⟩, ⟨Rv_mono hRv (by omega) (by omega), p3⟩, ⟨x1, x2, x3, x4, x5, by omega, by omega⟩, p5, hm⟩
set_option maxHeartbeats 4000000 in
set_option maxRecDepth 100000 in
theorem lw_has {L m : Nat} {xs : Nat → Int32} {M : ao_M} {ρ : ao_H} (hL : L ≤ 3072) (hi : 6 * m + 6 ≤ L) (h : LW m M ρ) (h9 : xs (6 * m) &&& 31 = 8) {Q : Int32 × ao_S → Prop} (nx : ∀ M ρ, LW (m + 1) M ρ → hv (fun n => fL_law L xs n 23 0 537 598 (nI (6 * (m + 1))) 0 0 0 0 0 0 M ρ) Q) : hv (fun n => fL_law L xs n 23 0 537 598 (nI (6 * m)) 0 0 0 0 0 0 M ρ) Q := by
  have c0 := lw_c0 hL hi
  have hm : m + 1 ≤ 512 := by omega
  refine hv_up (fun _ => fL_law.eq_2 ..) ?_
  simp (disch := omega) only [Nat.reduceEqDiff, ↓reduceIte, ao_let, n_addl, n_cl, n_ltl, f_lt, f_le, or_self, not_false_eq_true, Nat.reduceMul, Nat.reduceAdd, n_ell, c0, h9]
  refine hv_bind (LW_step (cf := fun M ρ n => gL_has n 0 (xs (6 * m + 1)) 598 M ρ) (rf := fun M ρ n => (gX12_has n 537 (xs (6 * m + 1)) M ρ).map (fun p => (p.1, p.2, ρ))) (fun y1 My w1 Mw => Mw 537 0 = y1 ∧ (y1 = 0 → My 598 0 = w1))
    (fun B1 B2 E1 E2 C ρ D σ hP => hv_mono (PR_has hP hm (xs (6 * m + 1))) (fun y hy => hv_map hy (fun w hw => ⟨hw.1, hw.2.1, hw.2.2⟩)))
    (fun W M0 ρ0 M ρ w0 w598 hI n z hz => hc_gL_has w0 hI w0 w598 z hz)
    (fun W M0 ρ0 M ρ o0 w537 hI n z hz => by
    obtain ⟨p, hp, rfl⟩ := Option.map_eq_some_iff.mp hz
    exact hd_gX12_has o0 hI (okl w537) p hp) h) ?_
  rintro ⟨k, M1, ρ2⟩ ⟨k537, -, hr⟩
  dsimp only at k537 hr
  refine hv_up (fun _ => fL_law.eq_2 ..) ?_
  simp (disch := omega) only [Nat.reduceEqDiff, ↓reduceIte, ao_let, n_addl, n_cl, n_ltl, f_lt, f_le, or_self, not_false_eq_true, Nat.reduceMul, Nat.reduceAdd, n_ell, k537]
  refine hv_bind (hv_unmap (map_inj ρ2) hr) ?_
  rintro ⟨v, M2⟩ ⟨hLW, e598, e0, ev⟩
  dsimp only at hLW e598 e0 ev ⊢
  have O1 := LW_O hLW
  simp only [gX12_thrown, k537, ↓reduceIte, Option.bind_some, e0]
  by_cases q : k = 0
  · subst q
    have e1 : M2 598 0 = v := by rw [e598]; exact ev rfl
    simp only [↓reduceIte, O1.1, O1.2, Int32.reduceLT, Int32.reduceToNatClampNeg, e1, lg_self, Nat.reduceLeDiff, or_self, not_false_eq_true]
    exact lw_e622 (nx M2 ρ2 hLW)
  · simp only [q, ↓reduceIte]
    exact lw_e622 (nx M2 ρ2 hLW)
set_option maxHeartbeats 4000000 in
set_option maxRecDepth 100000 in
theorem lw_had {L m : Nat} {xs : Nat → Int32} {M : ao_M} {ρ : ao_H} (hL : L ≤ 3072) (hi : 6 * m + 6 ≤ L) (h : LW m M ρ) (h9 : xs (6 * m) &&& 31 = 9) {Q : Int32 × ao_S → Prop} (nx : ∀ M ρ, LW (m + 1) M ρ → hv (fun n => fL_law L xs n 23 0 537 598 (nI (6 * (m + 1))) 0 0 0 0 0 0 M ρ) Q) : hv (fun n => fL_law L xs n 23 0 537 598 (nI (6 * m)) 0 0 0 0 0 0 M ρ) Q := by
  have c0 := lw_c0 hL hi
  have hm : m + 1 ≤ 512 := by omega
  refine hv_up (fun _ => fL_law.eq_2 ..) ?_
  simp (disch := omega) only [Nat.reduceEqDiff, ↓reduceIte, ao_let, n_addl, n_cl, n_ltl, f_lt, f_le, or_self, not_false_eq_true, Nat.reduceMul, Nat.reduceAdd, n_ell, c0, h9]
  refine hv_bind (LW_step (cf := fun M ρ n => gL_had n 0 (xs (6 * m + 1)) (xs (6 * m + 2)) 598 M ρ) (rf := fun M ρ n => (gX12_had n 537 (xs (6 * m + 1)) (xs (6 * m + 2)) M ρ).map (fun p => (p.1, p.2, ρ))) (fun y1 My w1 Mw => Mw 537 0 = y1 ∧ (y1 = 0 → My 598 0 = w1))
    (fun B1 B2 E1 E2 C ρ D σ hP => hv_mono (PR_had hP hm (xs (6 * m + 1)) (xs (6 * m + 2))) (fun y hy => hv_map hy (fun w hw => ⟨hw.1, hw.2.1, hw.2.2⟩)))
    (fun W M0 ρ0 M ρ w0 w598 hI n z hz => hc_gL_had w0 hI w0 w598 z hz)
    (fun W M0 ρ0 M ρ o0 w537 hI n z hz => by
    obtain ⟨p, hp, rfl⟩ := Option.map_eq_some_iff.mp hz
    exact hd_gX12_had o0 hI (okl w537) p hp) h) ?_
  rintro ⟨k, M1, ρ2⟩ ⟨k537, -, hr⟩
  dsimp only at k537 hr
  refine hv_up (fun _ => fL_law.eq_2 ..) ?_
  simp (disch := omega) only [Nat.reduceEqDiff, ↓reduceIte, ao_let, n_addl, n_cl, n_ltl, f_lt, f_le, or_self, not_false_eq_true, Nat.reduceMul, Nat.reduceAdd, n_ell, k537]
  refine hv_bind (hv_unmap (map_inj ρ2) hr) ?_
  rintro ⟨v, M2⟩ ⟨hLW, e598, e0, ev⟩
  dsimp only at hLW e598 e0 ev ⊢
  have O1 := LW_O hLW
  simp only [gX12_thrown, k537, ↓reduceIte, Option.bind_some, e0]
  by_cases q : k = 0
  · subst q
    have e1 : M2 598 0 = v := by rw [e598]; exact ev rfl
    simp only [↓reduceIte, O1.1, O1.2, Int32.reduceLT, Int32.reduceToNatClampNeg, e1, lg_self, Nat.reduceLeDiff, or_self, not_false_eq_true]
    exact lw_e690 (nx M2 ρ2 hLW)
  · simp only [q, ↓reduceIte]
    exact lw_e690 (nx M2 ρ2 hLW)
set_option maxHeartbeats 4000000 in
set_option maxRecDepth 100000 in
theorem lw_register {L m : Nat} {xs : Nat → Int32} {M : ao_M} {ρ : ao_H} (hL : L ≤ 3072) (hi : 6 * m + 6 ≤ L) (h : LW m M ρ) (h9 : xs (6 * m) &&& 31 = 10) {Q : Int32 × ao_S → Prop} (nx : ∀ M ρ, LW (m + 1) M ρ → hv (fun n => fL_law L xs n 23 0 537 598 (nI (6 * (m + 1))) 0 0 0 0 0 0 M ρ) Q) : hv (fun n => fL_law L xs n 23 0 537 598 (nI (6 * m)) 0 0 0 0 0 0 M ρ) Q := by
  have c0 := lw_c0 hL hi
  have hm : m + 1 ≤ 512 := by omega
  refine hv_up (fun _ => fL_law.eq_2 ..) ?_
  simp (disch := omega) only [Nat.reduceEqDiff, ↓reduceIte, ao_let, n_addl, n_cl, n_ltl, f_lt, f_le, or_self, not_false_eq_true, Nat.reduceMul, Nat.reduceAdd, n_ell, c0, h9]
  refine hv_bind (LW_step (cf := fun M ρ n => gL_register n 0 (xs (6 * m + 1)) (xs (6 * m + 2)) 598 M ρ) (rf := fun M ρ n => (gX12_register n 537 (xs (6 * m + 1)) (xs (6 * m + 2)) M ρ).map (fun p => (p.1, p.2, ρ))) (fun y1 My w1 Mw => Mw 537 0 = y1 ∧ (y1 = 0 → My 598 0 = w1))
    (fun B1 B2 E1 E2 C ρ D σ hP => hv_mono (PR_register hP hm (xs (6 * m + 1)) (xs (6 * m + 2))) (fun y hy => hv_map hy (fun w hw => ⟨hw.1, hw.2.1, hw.2.2⟩)))
    (fun W M0 ρ0 M ρ w0 w598 hI n z hz => hc_gL_register w0 hI w0 w598 z hz)
    (fun W M0 ρ0 M ρ o0 w537 hI n z hz => by
    obtain ⟨p, hp, rfl⟩ := Option.map_eq_some_iff.mp hz
    exact hd_gX12_register o0 hI (okl w537) p hp) h) ?_
  rintro ⟨k, M1, ρ2⟩ ⟨k537, -, hr⟩
  dsimp only at k537 hr
  refine hv_up (fun _ => fL_law.eq_2 ..) ?_
  simp (disch := omega) only [Nat.reduceEqDiff, ↓reduceIte, ao_let, n_addl, n_cl, n_ltl, f_lt, f_le, or_self, not_false_eq_true, Nat.reduceMul, Nat.reduceAdd, n_ell, k537]
  refine hv_bind (hv_unmap (map_inj ρ2) hr) ?_
  rintro ⟨v, M2⟩ ⟨hLW, e598, e0, ev⟩
  dsimp only at hLW e598 e0 ev ⊢
  have O1 := LW_O hLW
  simp only [gX12_thrown, k537, ↓reduceIte, Option.bind_some, e0]
  by_cases q : k = 0
  · subst q
    have e1 : M2 598 0 = v := by rw [e598]; exact ev rfl
    simp only [↓reduceIte, O1.1, O1.2, Int32.reduceLT, Int32.reduceToNatClampNeg, e1, lg_self, Nat.reduceLeDiff, or_self, not_false_eq_true]
    exact lw_e758 (nx M2 ρ2 hLW)
  · simp only [q, ↓reduceIte]
    exact lw_e758 (nx M2 ρ2 hLW)
set_option maxHeartbeats 4000000 in
set_option maxRecDepth 100000 in
theorem lw_said0 {L m : Nat} {xs : Nat → Int32} {M : ao_M} {ρ : ao_H} (hL : L ≤ 3072) (hi : 6 * m + 6 ≤ L) (h : LW m M ρ) (h9 : xs (6 * m) &&& 31 = 11) (hb : xs (6 * m + 2) = 0) {Q : Int32 × ao_S → Prop} (nx : ∀ M ρ, LW (m + 1) M ρ → hv (fun n => fL_law L xs n 23 0 537 598 (nI (6 * (m + 1))) 0 0 0 0 0 0 M ρ) Q) : hv (fun n => fL_law L xs n 23 0 537 598 (nI (6 * m)) 0 0 0 0 0 0 M ρ) Q := by
  have c0 := lw_c0 hL hi
  have hm : m + 1 ≤ 512 := by omega
  refine hv_up (fun _ => fL_law.eq_2 ..) ?_
  simp (disch := omega) only [Nat.reduceEqDiff, ↓reduceIte, ao_let, n_addl, n_cl, n_ltl, f_lt, f_le, or_self, not_false_eq_true, Nat.reduceMul, Nat.reduceAdd, n_ell, c0, h9, hb]
  refine hv_up (fun _ => fL_law.eq_2 ..) ?_
  simp (disch := omega) only [Nat.reduceEqDiff, ↓reduceIte, ao_let, n_addl, n_cl, n_ltl, f_lt, f_le, or_self, not_false_eq_true, Nat.reduceMul, Nat.reduceAdd, n_ell]
  refine hv_bind (LW_step (cf := fun M ρ n => gL_said n 0 (xs (6 * m + 1)) 0 598 M ρ) (rf := fun M ρ n => (gX12_said n 537 (xs (6 * m + 1)) 0 M ρ).map (fun p => (p.1, p.2, ρ))) (fun y1 My w1 Mw => Mw 537 0 = y1 ∧ (y1 = 0 → My 598 0 = w1))
    (fun B1 B2 E1 E2 C ρ D σ hP => hv_mono (PR_said hP hm (xs (6 * m + 1)) 0) (fun y hy => hv_map hy (fun w hw => ⟨hw.1, hw.2.1, hw.2.2⟩)))
    (fun W M0 ρ0 M ρ w0 w598 hI n z hz => hc_gL_said w0 hI w0 w598 z hz)
    (fun W M0 ρ0 M ρ o0 w537 hI n z hz => by
    obtain ⟨p, hp, rfl⟩ := Option.map_eq_some_iff.mp hz
    exact hd_gX12_said o0 hI (okl w537) p hp) h) ?_
  rintro ⟨k, M1, ρ2⟩ ⟨k537, -, hr⟩
  dsimp only at k537 hr
  refine hv_up (fun _ => fL_law.eq_2 ..) ?_
  simp (disch := omega) only [Nat.reduceEqDiff, ↓reduceIte, ao_let, n_addl, n_cl, n_ltl, f_lt, f_le, or_self, not_false_eq_true, Nat.reduceMul, Nat.reduceAdd, n_ell, hb]
  refine hv_up (fun _ => fL_law.eq_2 ..) ?_
  simp (disch := omega) only [Nat.reduceEqDiff, ↓reduceIte, ao_let, n_addl, n_cl, n_ltl, f_lt, f_le, or_self, not_false_eq_true, Nat.reduceMul, Nat.reduceAdd, n_ell, k537]
  refine hv_bind (hv_unmap (map_inj ρ2) hr) ?_
  rintro ⟨v, M2⟩ ⟨hLW, e598, e0, ev⟩
  dsimp only at hLW e598 e0 ev ⊢
  have O1 := LW_O hLW
  simp only [gX12_thrown, k537, ↓reduceIte, Option.bind_some, e0]
  by_cases q : k = 0
  · subst q
    have e1 : M2 598 0 = v := by rw [e598]; exact ev rfl
    simp only [↓reduceIte, O1.1, O1.2, Int32.reduceLT, Int32.reduceToNatClampNeg, e1, lg_self, Nat.reduceLeDiff, or_self, not_false_eq_true]
    exact lw_e842 (nx M2 ρ2 hLW)
  · simp only [q, ↓reduceIte]
    exact lw_e842 (nx M2 ρ2 hLW)
set_option maxHeartbeats 4000000 in
set_option maxRecDepth 100000 in
theorem lw_said1 {L m : Nat} {xs : Nat → Int32} {M : ao_M} {ρ : ao_H} (hL : L ≤ 3072) (hi : 6 * m + 6 ≤ L) (h : LW m M ρ) (h9 : xs (6 * m) &&& 31 = 11) (hb : ¬ xs (6 * m + 2) = 0) {Q : Int32 × ao_S → Prop} (nx : ∀ M ρ, LW (m + 1) M ρ → hv (fun n => fL_law L xs n 23 0 537 598 (nI (6 * (m + 1))) 0 0 0 0 0 0 M ρ) Q) : hv (fun n => fL_law L xs n 23 0 537 598 (nI (6 * m)) 0 0 0 0 0 0 M ρ) Q := by
  have c0 := lw_c0 hL hi
  have hm : m + 1 ≤ 512 := by omega
  refine hv_up (fun _ => fL_law.eq_2 ..) ?_
  simp (disch := omega) only [Nat.reduceEqDiff, ↓reduceIte, ao_let, n_addl, n_cl, n_ltl, f_lt, f_le, or_self, not_false_eq_true, Nat.reduceMul, Nat.reduceAdd, n_ell, c0, h9, hb]
  refine hv_up (fun _ => fL_law.eq_2 ..) ?_
  simp (disch := omega) only [Nat.reduceEqDiff, ↓reduceIte, ao_let, n_addl, n_cl, n_ltl, f_lt, f_le, or_self, not_false_eq_true, Nat.reduceMul, Nat.reduceAdd, n_ell]
  refine hv_bind (LW_step (cf := fun M ρ n => gL_said n 0 (xs (6 * m + 1)) 1 598 M ρ) (rf := fun M ρ n => (gX12_said n 537 (xs (6 * m + 1)) 1 M ρ).map (fun p => (p.1, p.2, ρ))) (fun y1 My w1 Mw => Mw 537 0 = y1 ∧ (y1 = 0 → My 598 0 = w1))
    (fun B1 B2 E1 E2 C ρ D σ hP => hv_mono (PR_said hP hm (xs (6 * m + 1)) 1) (fun y hy => hv_map hy (fun w hw => ⟨hw.1, hw.2.1, hw.2.2⟩)))
    (fun W M0 ρ0 M ρ w0 w598 hI n z hz => hc_gL_said w0 hI w0 w598 z hz)
    (fun W M0 ρ0 M ρ o0 w537 hI n z hz => by
    obtain ⟨p, hp, rfl⟩ := Option.map_eq_some_iff.mp hz
    exact hd_gX12_said o0 hI (okl w537) p hp) h) ?_
  rintro ⟨k, M1, ρ2⟩ ⟨k537, -, hr⟩
  dsimp only at k537 hr
  refine hv_up (fun _ => fL_law.eq_2 ..) ?_
  simp (disch := omega) only [Nat.reduceEqDiff, ↓reduceIte, ao_let, n_addl, n_cl, n_ltl, f_lt, f_le, or_self, not_false_eq_true, Nat.reduceMul, Nat.reduceAdd, n_ell, hb]
  refine hv_up (fun _ => fL_law.eq_2 ..) ?_
  simp (disch := omega) only [Nat.reduceEqDiff, ↓reduceIte, ao_let, n_addl, n_cl, n_ltl, f_lt, f_le, or_self, not_false_eq_true, Nat.reduceMul, Nat.reduceAdd, n_ell, k537]
  refine hv_bind (hv_unmap (map_inj ρ2) hr) ?_
  rintro ⟨v, M2⟩ ⟨hLW, e598, e0, ev⟩
  dsimp only at hLW e598 e0 ev ⊢
  have O1 := LW_O hLW
  simp only [gX12_thrown, k537, ↓reduceIte, Option.bind_some, e0]
  by_cases q : k = 0
  · subst q
    have e1 : M2 598 0 = v := by rw [e598]; exact ev rfl
    simp only [↓reduceIte, O1.1, O1.2, Int32.reduceLT, Int32.reduceToNatClampNeg, e1, lg_self, Nat.reduceLeDiff, or_self, not_false_eq_true]
    exact lw_e842 (nx M2 ρ2 hLW)
  · simp only [q, ↓reduceIte]
    exact lw_e842 (nx M2 ρ2 hLW)
set_option maxHeartbeats 4000000 in
set_option maxRecDepth 100000 in
theorem lw_look {L m : Nat} {xs : Nat → Int32} {M : ao_M} {ρ : ao_H} (hL : L ≤ 3072) (hi : 6 * m + 6 ≤ L) (h : LW m M ρ) (h9 : xs (6 * m) &&& 31 = 12) {Q : Int32 × ao_S → Prop} (nx : ∀ M ρ, LW (m + 1) M ρ → hv (fun n => fL_law L xs n 23 0 537 598 (nI (6 * (m + 1))) 0 0 0 0 0 0 M ρ) Q) : hv (fun n => fL_law L xs n 23 0 537 598 (nI (6 * m)) 0 0 0 0 0 0 M ρ) Q := by
  have c0 := lw_c0 hL hi
  have hm : m + 1 ≤ 512 := by omega
  refine hv_up (fun _ => fL_law.eq_2 ..) ?_
  simp (disch := omega) only [Nat.reduceEqDiff, ↓reduceIte, ao_let, n_addl, n_cl, n_ltl, f_lt, f_le, or_self, not_false_eq_true, Nat.reduceMul, Nat.reduceAdd, n_ell, c0, h9]
  refine hv_bind (LW_step (cf := fun M ρ n => gL_look n 0 (xs (6 * m + 1)) (xs (6 * m + 2)) 598 M ρ) (rf := fun M ρ n => (gX12_look n 537 (xs (6 * m + 1)) (xs (6 * m + 2)) M ρ).map (fun p => (p.1, p.2, ρ))) (fun y1 My w1 Mw => Mw 537 0 = y1 ∧ (y1 = 0 → My 598 0 = w1))
    (fun B1 B2 E1 E2 C ρ D σ hP => hv_mono (PR_look hP hm (xs (6 * m + 1)) (xs (6 * m + 2))) (fun y hy => hv_map hy (fun w hw => ⟨hw.1, hw.2.1, hw.2.2⟩)))
    (fun W M0 ρ0 M ρ w0 w598 hI n z hz => hc_gL_look w0 hI w0 w598 z hz)
    (fun W M0 ρ0 M ρ o0 w537 hI n z hz => by
    obtain ⟨p, hp, rfl⟩ := Option.map_eq_some_iff.mp hz
    exact hd_gX12_look o0 hI (okl w537) p hp) h) ?_
  rintro ⟨k, M1, ρ2⟩ ⟨k537, -, hr⟩
  dsimp only at k537 hr
  refine hv_up (fun _ => fL_law.eq_2 ..) ?_
  simp (disch := omega) only [Nat.reduceEqDiff, ↓reduceIte, ao_let, n_addl, n_cl, n_ltl, f_lt, f_le, or_self, not_false_eq_true, Nat.reduceMul, Nat.reduceAdd, n_ell, k537]
  refine hv_bind (hv_unmap (map_inj ρ2) hr) ?_
  rintro ⟨v, M2⟩ ⟨hLW, e598, e0, ev⟩
  dsimp only at hLW e598 e0 ev ⊢
  have O1 := LW_O hLW
  simp only [gX12_thrown, k537, ↓reduceIte, Option.bind_some, e0]
  by_cases q : k = 0
  · subst q
    have e1 : M2 598 0 = v := by rw [e598]; exact ev rfl
    simp only [↓reduceIte, O1.1, O1.2, Int32.reduceLT, Int32.reduceToNatClampNeg, e1, lg_self, Nat.reduceLeDiff, or_self, not_false_eq_true]
    exact lw_e910 (nx M2 ρ2 hLW)
  · simp only [q, ↓reduceIte]
    exact lw_e910 (nx M2 ρ2 hLW)
set_option maxHeartbeats 4000000 in
set_option maxRecDepth 100000 in
theorem lw_judge {L m : Nat} {xs : Nat → Int32} {M : ao_M} {ρ : ao_H} (hL : L ≤ 3072) (hi : 6 * m + 6 ≤ L) (h : LW m M ρ) (h9 : xs (6 * m) &&& 31 = 13) {Q : Int32 × ao_S → Prop} (nx : ∀ M ρ, LW (m + 1) M ρ → hv (fun n => fL_law L xs n 23 0 537 598 (nI (6 * (m + 1))) 0 0 0 0 0 0 M ρ) Q) : hv (fun n => fL_law L xs n 23 0 537 598 (nI (6 * m)) 0 0 0 0 0 0 M ρ) Q := by
  have c0 := lw_c0 hL hi
  have hm : m + 1 ≤ 512 := by omega
  have k0 := LW_A h
  have k5 := LW_D h
  refine hv_up (fun _ => fL_law.eq_2 ..) ?_
  simp (disch := omega) only [Nat.reduceEqDiff, ↓reduceIte, ao_let, n_addl, n_cl, n_ltl, f_lt, f_le, or_self, not_false_eq_true, Nat.reduceMul, Nat.reduceAdd, n_ell, c0, h9, k0, k5]
  have st := LW_step (cf := fun M ρ n => (gX10_judge n 0 M ρ).map (fun p => (p.1, p.2, ρ))) (rf := fun M ρ n => (gX12_judge n 537 M ρ).map (fun p => (p.1, p.2, ρ))) (fun y1 _ w1 _ => y1 = w1)
    (fun B1 B2 E1 E2 C ρ D σ hP => by
      refine hv_map (PR_judge hP hm) (fun y hy => ?_)
      try dsimp only
      refine hv_map hy (fun w hw => ?_)
      exact ⟨hw.2, hw.1⟩)
    (fun W M0 ρ0 M ρ w0 w598 hI n z hz => by
      obtain ⟨p, hp, rfl⟩ := Option.map_eq_some_iff.mp hz
      exact hc_gX10_judge w0 hI w0 p hp)
    (fun W M0 ρ0 M ρ o0 w537 hI n z hz => by
      obtain ⟨p, hp, rfl⟩ := Option.map_eq_some_iff.mp hz
      exact hd_gX12_judge o0 hI (okl w537) p hp) h
  refine hv_bind (hv_unmap (g := fun n => gX10_judge n 0 M ρ) (map_inj ρ) st) ?_
  rintro ⟨y1, M1⟩ ⟨-, -, hr⟩
  dsimp only at hr ⊢
  refine hv_bind (hv_unmap (g := fun n => gX12_judge n 537 M1 ρ) (map_inj ρ) hr) ?_
  rintro ⟨v, M2⟩ ⟨hLW, e598, e0⟩
  dsimp only at hLW e598 e0 ⊢
  refine hv_ifT e0 ?_
  exact lw_e1106 (nx M2 ρ hLW)
set_option maxHeartbeats 4000000 in
set_option maxRecDepth 100000 in
theorem lw_order {L m : Nat} {xs : Nat → Int32} {M : ao_M} {ρ : ao_H} (hL : L ≤ 3072) (hi : 6 * m + 6 ≤ L) (h : LW m M ρ) (h9 : xs (6 * m) &&& 31 = 14) {Q : Int32 × ao_S → Prop} (nx : ∀ M ρ, LW (m + 1) M ρ → hv (fun n => fL_law L xs n 23 0 537 598 (nI (6 * (m + 1))) 0 0 0 0 0 0 M ρ) Q) : hv (fun n => fL_law L xs n 23 0 537 598 (nI (6 * m)) 0 0 0 0 0 0 M ρ) Q := by
  have c0 := lw_c0 hL hi
  have hm : m + 1 ≤ 512 := by omega
  refine hv_up (fun _ => fL_law.eq_2 ..) ?_
  simp (disch := omega) only [Nat.reduceEqDiff, ↓reduceIte, ao_let, n_addl, n_cl, n_ltl, f_lt, f_le, or_self, not_false_eq_true, Nat.reduceMul, Nat.reduceAdd, n_ell, c0, h9]
  refine hv_bind (LW_step (cf := fun M ρ n => gL_order n 0 (xs (6 * m + 1)) 598 M ρ) (rf := fun M ρ n => (gX12_order n 537 (xs (6 * m + 1)) M ρ).map (fun p => (p.1, p.2, ρ))) (fun y1 My w1 Mw => Mw 537 0 = y1 ∧ (y1 = 0 → My 598 0 = w1))
    (fun B1 B2 E1 E2 C ρ D σ hP => hv_mono (PR_order hP hm (xs (6 * m + 1))) (fun y hy => hv_map hy (fun w hw => ⟨hw.1, hw.2.1, hw.2.2⟩)))
    (fun W M0 ρ0 M ρ w0 w598 hI n z hz => hc_gL_order w0 hI w0 w598 z hz)
    (fun W M0 ρ0 M ρ o0 w537 hI n z hz => by
    obtain ⟨p, hp, rfl⟩ := Option.map_eq_some_iff.mp hz
    exact hd_gX12_order o0 hI (okl w537) p hp) h) ?_
  rintro ⟨k, M1, ρ2⟩ ⟨k537, -, hr⟩
  dsimp only at k537 hr
  refine hv_up (fun _ => fL_law.eq_2 ..) ?_
  simp (disch := omega) only [Nat.reduceEqDiff, ↓reduceIte, ao_let, n_addl, n_cl, n_ltl, f_lt, f_le, or_self, not_false_eq_true, Nat.reduceMul, Nat.reduceAdd, n_ell, k537]
  refine hv_bind (hv_unmap (map_inj ρ2) hr) ?_
  rintro ⟨v, M2⟩ ⟨hLW, e598, e0, ev⟩
  dsimp only at hLW e598 e0 ev ⊢
  have O1 := LW_O hLW
  simp only [gX12_thrown, k537, ↓reduceIte, Option.bind_some, e0]
  by_cases q : k = 0
  · subst q
    have e1 : M2 598 0 = v := by rw [e598]; exact ev rfl
    simp only [↓reduceIte, O1.1, O1.2, Int32.reduceLT, Int32.reduceToNatClampNeg, e1, lg_self, Nat.reduceLeDiff, or_self, not_false_eq_true]
    exact lw_e979 (nx M2 ρ2 hLW)
  · simp only [q, ↓reduceIte]
    exact lw_e979 (nx M2 ρ2 hLW)
set_option maxHeartbeats 4000000 in
set_option maxRecDepth 100000 in
theorem lw_record {L m : Nat} {xs : Nat → Int32} {M : ao_M} {ρ : ao_H} (hL : L ≤ 3072) (hi : 6 * m + 6 ≤ L) (h : LW m M ρ) (h9 : xs (6 * m) &&& 31 = 15) {Q : Int32 × ao_S → Prop} (nx : ∀ M ρ, LW (m + 1) M ρ → hv (fun n => fL_law L xs n 23 0 537 598 (nI (6 * (m + 1))) 0 0 0 0 0 0 M ρ) Q) : hv (fun n => fL_law L xs n 23 0 537 598 (nI (6 * m)) 0 0 0 0 0 0 M ρ) Q := by
  have c0 := lw_c0 hL hi
  have hm : m + 1 ≤ 512 := by omega
  refine hv_up (fun _ => fL_law.eq_2 ..) ?_
  simp (disch := omega) only [Nat.reduceEqDiff, ↓reduceIte, ao_let, n_addl, n_cl, n_ltl, f_lt, f_le, or_self, not_false_eq_true, Nat.reduceMul, Nat.reduceAdd, n_ell, c0, h9]
  refine hv_bind (LW_step (cf := fun M ρ n => gL_record n 0 (xs (6 * m + 1)) (xs (6 * m + 2)) 598 M ρ) (rf := fun M ρ n => (gX12_record n 537 (xs (6 * m + 1)) (xs (6 * m + 2)) M ρ).map (fun p => (p.1, p.2, ρ))) (fun y1 My w1 Mw => Mw 537 0 = y1 ∧ (y1 = 0 → My 598 0 = w1))
    (fun B1 B2 E1 E2 C ρ D σ hP => hv_mono (PR_record hP hm (xs (6 * m + 1)) (xs (6 * m + 2))) (fun y hy => hv_map hy (fun w hw => ⟨hw.1, hw.2.1, hw.2.2⟩)))
    (fun W M0 ρ0 M ρ w0 w598 hI n z hz => hc_gL_record w0 hI w0 w598 z hz)
    (fun W M0 ρ0 M ρ o0 w537 hI n z hz => by
    obtain ⟨p, hp, rfl⟩ := Option.map_eq_some_iff.mp hz
    exact hd_gX12_record o0 hI (okl w537) p hp) h) ?_
  rintro ⟨k, M1, ρ2⟩ ⟨k537, -, hr⟩
  dsimp only at k537 hr
  refine hv_up (fun _ => fL_law.eq_2 ..) ?_
  simp (disch := omega) only [Nat.reduceEqDiff, ↓reduceIte, ao_let, n_addl, n_cl, n_ltl, f_lt, f_le, or_self, not_false_eq_true, Nat.reduceMul, Nat.reduceAdd, n_ell, k537]
  refine hv_bind (hv_unmap (map_inj ρ2) hr) ?_
  rintro ⟨v, M2⟩ ⟨hLW, e598, e0, ev⟩
  dsimp only at hLW e598 e0 ev ⊢
  have O1 := LW_O hLW
  simp only [gX12_thrown, k537, ↓reduceIte, Option.bind_some, e0]
  by_cases q : k = 0
  · subst q
    have e1 : M2 598 0 = v := by rw [e598]; exact ev rfl
    simp only [↓reduceIte, O1.1, O1.2, Int32.reduceLT, Int32.reduceToNatClampNeg, e1, lg_self, Nat.reduceLeDiff, or_self, not_false_eq_true]
    exact lw_e1047 (nx M2 ρ2 hLW)
  · simp only [q, ↓reduceIte]
    exact lw_e1047 (nx M2 ρ2 hLW)
set_option maxHeartbeats 4000000 in
set_option maxRecDepth 100000 in
theorem lw_count {L m : Nat} {xs : Nat → Int32} {M : ao_M} {ρ : ao_H} (hL : L ≤ 3072) (hi : 6 * m + 6 ≤ L) (h : LW m M ρ) (h9 : xs (6 * m) &&& 31 = 16) {Q : Int32 × ao_S → Prop} (nx : ∀ M ρ, LW (m + 1) M ρ → hv (fun n => fL_law L xs n 23 0 537 598 (nI (6 * (m + 1))) 0 0 0 0 0 0 M ρ) Q) : hv (fun n => fL_law L xs n 23 0 537 598 (nI (6 * m)) 0 0 0 0 0 0 M ρ) Q := by
  have c0 := lw_c0 hL hi
  have hm : m + 1 ≤ 512 := by omega
  refine hv_up (fun _ => fL_law.eq_2 ..) ?_
  simp (disch := omega) only [Nat.reduceEqDiff, ↓reduceIte, ao_let, n_addl, n_cl, n_ltl, f_lt, f_le, or_self, not_false_eq_true, Nat.reduceMul, Nat.reduceAdd, n_ell, c0, h9]
  refine hv_bind (LW_step (cf := fun M ρ n => gL_count n 0 (xs (6 * m + 1)) 598 M ρ) (rf := fun M ρ n => (gX12_count n 537 (xs (6 * m + 1)) M ρ).map (fun p => (p.1, p.2, ρ))) (fun y1 My w1 Mw => Mw 537 0 = y1 ∧ (y1 = 0 → My 598 0 = w1))
    (fun B1 B2 E1 E2 C ρ D σ hP => hv_mono (PR_count hP hm (xs (6 * m + 1))) (fun y hy => hv_map hy (fun w hw => ⟨hw.1, hw.2.1, hw.2.2⟩)))
    (fun W M0 ρ0 M ρ w0 w598 hI n z hz => hc_gL_count w0 hI w0 w598 z hz)
    (fun W M0 ρ0 M ρ o0 w537 hI n z hz => by
    obtain ⟨p, hp, rfl⟩ := Option.map_eq_some_iff.mp hz
    exact hd_gX12_count o0 hI (okl w537) p hp) h) ?_
  rintro ⟨k, M1, ρ2⟩ ⟨k537, -, hr⟩
  dsimp only at k537 hr
  refine hv_up (fun _ => fL_law.eq_2 ..) ?_
  simp (disch := omega) only [Nat.reduceEqDiff, ↓reduceIte, ao_let, n_addl, n_cl, n_ltl, f_lt, f_le, or_self, not_false_eq_true, Nat.reduceMul, Nat.reduceAdd, n_ell, k537]
  refine hv_bind (hv_unmap (map_inj ρ2) hr) ?_
  rintro ⟨v, M2⟩ ⟨hLW, e598, e0, ev⟩
  dsimp only at hLW e598 e0 ev ⊢
  have O1 := LW_O hLW
  simp only [gX12_thrown, k537, ↓reduceIte, Option.bind_some, e0]
  by_cases q : k = 0
  · subst q
    have e1 : M2 598 0 = v := by rw [e598]; exact ev rfl
    simp only [↓reduceIte, O1.1, O1.2, Int32.reduceLT, Int32.reduceToNatClampNeg, e1, lg_self, Nat.reduceLeDiff, or_self, not_false_eq_true]
    exact lw_e1103 (nx M2 ρ2 hLW)
  · simp only [q, ↓reduceIte]
    exact lw_e1103 (nx M2 ρ2 hLW)
set_option maxHeartbeats 4000000 in
set_option maxRecDepth 100000 in
theorem lw_one {L m : Nat} {xs : Nat → Int32} {M : ao_M} {ρ : ao_H} (hL : L ≤ 3072) (hi : 6 * m + 6 ≤ L) (h : LW m M ρ) {Q : Int32 × ao_S → Prop} (nx : ∀ M ρ, LW (m + 1) M ρ → hv (fun n => fL_law L xs n 23 0 537 598 (nI (6 * (m + 1))) 0 0 0 0 0 0 M ρ) Q) : hv (fun n => fL_law L xs n 23 0 537 598 (nI (6 * m)) 0 0 0 0 0 0 M ρ) Q := by
  by_cases q0 : xs (6 * m) &&& 31 = 0
  · exact lw_feed hL hi h q0 nx
  by_cases q1 : xs (6 * m) &&& 31 = 1
  · exact lw_end hL hi h q1 nx
  by_cases q2 : xs (6 * m) &&& 31 = 2
  · exact lw_start hL hi h q2 nx
  by_cases q3 : xs (6 * m) &&& 31 = 3
  · exact lw_program hL hi h q3 nx
  by_cases q4 : xs (6 * m) &&& 31 = 4
  · exact lw_place hL hi h q4 nx
  by_cases q5 : xs (6 * m) &&& 31 = 5
  · exact lw_put hL hi h q5 nx
  by_cases q6 : xs (6 * m) &&& 31 = 6
  · exact lw_turn hL hi h q6 nx
  by_cases q7 : xs (6 * m) &&& 31 = 7
  · exact lw_round hL hi h q7 nx
  by_cases q8 : xs (6 * m) &&& 31 = 8
  · exact lw_has hL hi h q8 nx
  by_cases q9 : xs (6 * m) &&& 31 = 9
  · exact lw_had hL hi h q9 nx
  by_cases q10 : xs (6 * m) &&& 31 = 10
  · exact lw_register hL hi h q10 nx
  by_cases q11 : xs (6 * m) &&& 31 = 11
  · by_cases hb : xs (6 * m + 2) = 0
    · exact lw_said0 hL hi h q11 hb nx
    · exact lw_said1 hL hi h q11 hb nx
  by_cases q12 : xs (6 * m) &&& 31 = 12
  · exact lw_look hL hi h q12 nx
  by_cases q13 : xs (6 * m) &&& 31 = 13
  · exact lw_judge hL hi h q13 nx
  by_cases q14 : xs (6 * m) &&& 31 = 14
  · exact lw_order hL hi h q14 nx
  by_cases q15 : xs (6 * m) &&& 31 = 15
  · exact lw_record hL hi h q15 nx
  by_cases q16 : xs (6 * m) &&& 31 = 16
  · exact lw_count hL hi h q16 nx
  have c0 := lw_c0 hL hi
  refine hv_up (fun _ => fL_law.eq_2 ..) ?_
  simp (disch := omega) only [Nat.reduceEqDiff, ↓reduceIte, ao_let, n_addl, n_cl, n_ltl, f_lt, f_le, or_self, not_false_eq_true, Nat.reduceMul, Nat.reduceAdd, n_ell, c0, q0, q1, q2, q3, q4, q5, q6, q7, q8, q9, q10, q11, q12, q13, q14, q15, q16]
  exact lw_e1106 (nx M ρ (LW_up h (by omega)))
/-- the whole loop -/
theorem lw_loop {L : Nat} {xs : Nat → Int32} (hL : L ≤ 3072) : ∀ (s m : Nat) (M : ao_M) (ρ : ao_H), m + s = 513 → LW m M ρ → hv (fun n => fL_law L xs n 23 0 537 598 (nI (6 * m)) 0 0 0 0 0 0 M ρ) (fun y => y.1 = 1 ∧ ∃ m, LW m y.2.1 y.2.2) := by
  intro s
  induction s with
  | zero =>
    intro m M ρ hs h
    obtain ⟨O, z, -, -, -, -, -, -, -, -, rm, -, -, kp, rc, n, -, -, -, -, h6⟩ := h
    omega
  | succ s ih =>
    intro m M ρ hs h
    by_cases hi : 6 * m + 6 ≤ L
    · exact lw_one hL hi h (fun M' ρ' h' => ih (m + 1) M' ρ' (by omega) h')
    · have c1 : ((nI L - 6) < nI (6 * m)) = True := by
        by_cases q : 6 ≤ L
        · rw [show (6 : Int32) = nI 6 from rfl, n_sub q, n_lt (by omega) (by omega)]
          exact eq_true (by omega)
        · have e0 : (nI L - 6) < (0 : Int32) := by
            rcases (show L = 0 ∨ L = 1 ∨ L = 2 ∨ L = 3 ∨ L = 4 ∨ L = 5 by omega) with rfl | rfl | rfl | rfl | rfl | rfl <;> decide
          have e1 : (0 : Int32) ≤ nI (6 * m) := by
            rw [show (0 : Int32) = nI 0 from rfl, n_le (by omega) (by omega)]
            omega
          exact eq_true (Int32.lt_of_lt_of_le e0 e1)
      refine hv_up (fun _ => fL_law.eq_2 ..) ?_
      simp only [Nat.reduceEqDiff, ↓reduceIte, c1]
      exact hv_some ⟨rfl, m, h⟩
/-- the room that was used -/
theorem LW_room {m : Nat} {M : ao_M} {ρ : ao_H} (h : LW m M ρ) : ρ.2.2.2.2.1 ≤ 601024 ∧ ρ.2.2.2.2.2 ≤ 7293034 := by
  obtain ⟨O, z, -, -, -, -, -, -, -, -, rm, hrm, -, hP⟩ := h
  have hln := PR_ln hP
  obtain ⟨kp, rc, n, ⟨-, F⟩, -, -, -, hm⟩ := hP
  obtain ⟨f, g, hh, -, pd, -⟩ := F.2.1
  obtain ⟨a, b, c, rm', y, r1, r2, r3, -, -, -, r7, r8, r9, -, -, -, r13, -⟩ := pd
  have e : lnS ρ = rm' + rm' + rm' := by
    unfold lnS lnP
    rw [r1, r2, r3]
    show ρ.2.2.1 a + ρ.2.2.1 b + ρ.2.2.1 c = _
    rw [r7, r8, r9]
  omega
