set_option linter.unusedSimpArgs false
set_option linter.unusedVariables false
/-! ===== the law's loop (by wip/whole/pure/genlaw.py) ===== -/
theorem hv_map {α β : Type} {g : Nat → Option α} {F : α → β} {P : α → Prop} {Q : β → Prop} (h : hv g P) (f : ∀ w, P w → Q (F w)) : hv (fun n => (g n).map F) Q := by
  obtain ⟨N, y, e, p⟩ := h
  exact ⟨N, F y, fun n hn => by show (g n).map F = some (F y); rw [e n hn]; rfl, f y p⟩
theorem hv_unmap {α β : Type} {g : Nat → Option α} {F : α → β} {Q : β → Prop} (hF : ∀ a b, F a = F b → a = b) (h : hv (fun n => (g n).map F) Q) : hv g (fun w => Q (F w)) := by
  obtain ⟨N, y, e, q⟩ := h
  obtain ⟨w, hw, ew⟩ := Option.map_eq_some_iff.mp (e N (Nat.le_refl _))
  refine ⟨N, w, fun n hn => ?_, by show Q (F w); rw [ew]; exact q⟩
  obtain ⟨w', hw', ew'⟩ := Option.map_eq_some_iff.mp (e n hn)
  rw [hw', hF w' w (ew'.trans ew.symm)]
theorem map_inj (ρ : ao_H) : ∀ a b : Int32 × ao_M, ((a.1, a.2, ρ) : Int32 × ao_S) = (b.1, b.2, ρ) → a = b := by
  rintro ⟨a1, a2⟩ ⟨b1, b2⟩ h
  cases h
  rfl
theorem lg_self (x : Int64) : (lg_cmp x x = 0) = True := by
  unfold lg_cmp
  rw [if_neg (by exact Int64.lt_irrefl), if_pos rfl]
  exact eq_true rfl
theorem LW_O {m : Nat} {M : ao_M} {ρ : ao_H} (h : LW m M ρ) : ShO ρ := by
  obtain ⟨O, z, -, -, -, -, -, -, -, -, rm, -, -, kp, rc, n, -, -, -, h5, -⟩ := h
  exact h5
theorem LW_D {m : Nat} {M : ao_M} {ρ : ao_H} (h : LW m M ρ) : ρ.2.1 537 = 22 := by
  obtain ⟨O, z, -, -, -, -, -, -, -, -, rm, -, -, kp, rc, n, ⟨-, F⟩, -⟩ := h
  exact F.1.2.2.2.1
theorem LW_A {m : Nat} {M : ao_M} {ρ : ao_H} (h : LW m M ρ) : ρ.2.1 0 = 20 := by
  obtain ⟨O, z, -, -, -, -, -, -, -, -, rm, -, -, kp, rc, n, ⟨-, F⟩, -⟩ := h
  exact F.1.1.1
theorem lw_c0 {L m : Nat} (hL : L ≤ 3072) (hi : 6 * m + 6 ≤ L) : ((nI L - 6) < nI (6 * m)) = False := by
  rw [show (6 : Int32) = nI 6 from rfl, n_sub (by omega), n_lt (by omega) (by omega)]
  exact eq_false (by omega)
section Lw
variable {L m : Nat} {xs : Nat → Int32} {M : ao_M} {ρ : ao_H} {Q : Int32 × ao_S → Prop}
set_option maxRecDepth 100000 in
set_option maxHeartbeats 4000000 in
theorem lw_e1106 (h : hv (fun n => fL_law L xs n 23 0 537 598 (nI (6 * (m + 1))) 0 0 0 0 0 0 M ρ) Q) : hv (fun n => fL_law L xs n 1106 0 537 598 (nI (6 * m)) 0 0 0 0 0 0 M ρ) Q := by
  refine hv_up (fun _ => fL_law.eq_2 ..) ?_
  simp only [Nat.reduceEqDiff, ↓reduceIte, ao_let, n_addl]
  exact h
set_option maxRecDepth 100000 in
set_option maxHeartbeats 4000000 in
theorem lw_e225 {x5 x6 : Int32} (h : hv (fun n => fL_law L xs n 23 0 537 598 (nI (6 * (m + 1))) 0 0 0 0 0 0 M ρ) Q) : hv (fun n => fL_law L xs n 225 0 537 598 (nI (6 * m)) x5 x6 0 0 0 0 M ρ) Q := by
  refine hv_up (fun _ => fL_law.eq_2 ..) ?_
  simp only [Nat.reduceEqDiff, ↓reduceIte]
  exact lw_e1106 h
set_option maxRecDepth 100000 in
set_option maxHeartbeats 4000000 in
theorem lw_e281 {x5 x6 : Int32} (h : hv (fun n => fL_law L xs n 23 0 537 598 (nI (6 * (m + 1))) 0 0 0 0 0 0 M ρ) Q) : hv (fun n => fL_law L xs n 281 0 537 598 (nI (6 * m)) x5 x6 0 0 0 0 M ρ) Q := by
  refine hv_up (fun _ => fL_law.eq_2 ..) ?_
  simp only [Nat.reduceEqDiff, ↓reduceIte]
  exact lw_e1106 h
set_option maxRecDepth 100000 in
set_option maxHeartbeats 4000000 in
theorem lw_e373 {x5 x6 : Int32} (h : hv (fun n => fL_law L xs n 23 0 537 598 (nI (6 * (m + 1))) 0 0 0 0 0 0 M ρ) Q) : hv (fun n => fL_law L xs n 373 0 537 598 (nI (6 * m)) x5 x6 0 0 0 0 M ρ) Q := by
  refine hv_up (fun _ => fL_law.eq_2 ..) ?_
  simp only [Nat.reduceEqDiff, ↓reduceIte]
  exact lw_e1106 h
set_option maxRecDepth 100000 in
set_option maxHeartbeats 4000000 in
theorem lw_e454 {x5 x6 : Int32} (h : hv (fun n => fL_law L xs n 23 0 537 598 (nI (6 * (m + 1))) 0 0 0 0 0 0 M ρ) Q) : hv (fun n => fL_law L xs n 454 0 537 598 (nI (6 * m)) x5 x6 0 0 0 0 M ρ) Q := by
  refine hv_up (fun _ => fL_law.eq_2 ..) ?_
  simp only [Nat.reduceEqDiff, ↓reduceIte]
  exact lw_e1106 h
set_option maxRecDepth 100000 in
set_option maxHeartbeats 4000000 in
theorem lw_e510 {x5 x6 : Int32} (h : hv (fun n => fL_law L xs n 23 0 537 598 (nI (6 * (m + 1))) 0 0 0 0 0 0 M ρ) Q) : hv (fun n => fL_law L xs n 510 0 537 598 (nI (6 * m)) x5 x6 0 0 0 0 M ρ) Q := by
  refine hv_up (fun _ => fL_law.eq_2 ..) ?_
  simp only [Nat.reduceEqDiff, ↓reduceIte]
  exact lw_e1106 h
set_option maxRecDepth 100000 in
set_option maxHeartbeats 4000000 in
theorem lw_e566 {x5 x6 : Int32} (h : hv (fun n => fL_law L xs n 23 0 537 598 (nI (6 * (m + 1))) 0 0 0 0 0 0 M ρ) Q) : hv (fun n => fL_law L xs n 566 0 537 598 (nI (6 * m)) x5 x6 0 0 0 0 M ρ) Q := by
  refine hv_up (fun _ => fL_law.eq_2 ..) ?_
  simp only [Nat.reduceEqDiff, ↓reduceIte]
  exact lw_e1106 h
set_option maxRecDepth 100000 in
set_option maxHeartbeats 4000000 in
theorem lw_e622 {x5 x6 : Int32} (h : hv (fun n => fL_law L xs n 23 0 537 598 (nI (6 * (m + 1))) 0 0 0 0 0 0 M ρ) Q) : hv (fun n => fL_law L xs n 622 0 537 598 (nI (6 * m)) x5 x6 0 0 0 0 M ρ) Q := by
  refine hv_up (fun _ => fL_law.eq_2 ..) ?_
  simp only [Nat.reduceEqDiff, ↓reduceIte]
  exact lw_e1106 h
set_option maxRecDepth 100000 in
set_option maxHeartbeats 4000000 in
theorem lw_e690 {x5 x6 : Int32} (h : hv (fun n => fL_law L xs n 23 0 537 598 (nI (6 * (m + 1))) 0 0 0 0 0 0 M ρ) Q) : hv (fun n => fL_law L xs n 690 0 537 598 (nI (6 * m)) x5 x6 0 0 0 0 M ρ) Q := by
  refine hv_up (fun _ => fL_law.eq_2 ..) ?_
  simp only [Nat.reduceEqDiff, ↓reduceIte]
  exact lw_e1106 h
set_option maxRecDepth 100000 in
set_option maxHeartbeats 4000000 in
theorem lw_e758 {x5 x6 : Int32} (h : hv (fun n => fL_law L xs n 23 0 537 598 (nI (6 * (m + 1))) 0 0 0 0 0 0 M ρ) Q) : hv (fun n => fL_law L xs n 758 0 537 598 (nI (6 * m)) x5 x6 0 0 0 0 M ρ) Q := by
  refine hv_up (fun _ => fL_law.eq_2 ..) ?_
  simp only [Nat.reduceEqDiff, ↓reduceIte]
  exact lw_e1106 h
set_option maxRecDepth 100000 in
set_option maxHeartbeats 4000000 in
theorem lw_e842 {x5 x6 : Int32} (h : hv (fun n => fL_law L xs n 23 0 537 598 (nI (6 * (m + 1))) 0 0 0 0 0 0 M ρ) Q) : hv (fun n => fL_law L xs n 842 0 537 598 (nI (6 * m)) x5 x6 0 0 0 0 M ρ) Q := by
  refine hv_up (fun _ => fL_law.eq_2 ..) ?_
  simp only [Nat.reduceEqDiff, ↓reduceIte]
  exact lw_e1106 h
set_option maxRecDepth 100000 in
set_option maxHeartbeats 4000000 in
theorem lw_e910 {x5 x6 : Int32} (h : hv (fun n => fL_law L xs n 23 0 537 598 (nI (6 * (m + 1))) 0 0 0 0 0 0 M ρ) Q) : hv (fun n => fL_law L xs n 910 0 537 598 (nI (6 * m)) x5 x6 0 0 0 0 M ρ) Q := by
  refine hv_up (fun _ => fL_law.eq_2 ..) ?_
  simp only [Nat.reduceEqDiff, ↓reduceIte]
  exact lw_e1106 h
set_option maxRecDepth 100000 in
set_option maxHeartbeats 4000000 in
theorem lw_e979 {x5 x6 : Int32} (h : hv (fun n => fL_law L xs n 23 0 537 598 (nI (6 * (m + 1))) 0 0 0 0 0 0 M ρ) Q) : hv (fun n => fL_law L xs n 979 0 537 598 (nI (6 * m)) x5 x6 0 0 0 0 M ρ) Q := by
  refine hv_up (fun _ => fL_law.eq_2 ..) ?_
  simp only [Nat.reduceEqDiff, ↓reduceIte]
  exact lw_e1106 h
set_option maxRecDepth 100000 in
set_option maxHeartbeats 4000000 in
theorem lw_e1047 {x5 x6 : Int32} (h : hv (fun n => fL_law L xs n 23 0 537 598 (nI (6 * (m + 1))) 0 0 0 0 0 0 M ρ) Q) : hv (fun n => fL_law L xs n 1047 0 537 598 (nI (6 * m)) x5 x6 0 0 0 0 M ρ) Q := by
  refine hv_up (fun _ => fL_law.eq_2 ..) ?_
  simp only [Nat.reduceEqDiff, ↓reduceIte]
  exact lw_e1106 h
set_option maxRecDepth 100000 in
set_option maxHeartbeats 4000000 in
theorem lw_e1103 {x5 x6 : Int32} (h : hv (fun n => fL_law L xs n 23 0 537 598 (nI (6 * (m + 1))) 0 0 0 0 0 0 M ρ) Q) : hv (fun n => fL_law L xs n 1103 0 537 598 (nI (6 * m)) x5 x6 0 0 0 0 M ρ) Q := by
  refine hv_up (fun _ => fL_law.eq_2 ..) ?_
  simp only [Nat.reduceEqDiff, ↓reduceIte]
  exact lw_e1106 h
end Lw
set_option maxHeartbeats 4000000 in
set_option maxRecDepth 100000 in
theorem lw_feed {L m : Nat} {xs : Nat → Int32} {M : ao_M} {ρ : ao_H} (hL : L ≤ 3072) (hi : 6 * m + 6 ≤ L) (h : LW m M ρ) (h9 : xs (6 * m) &&& 31 = 0) {Q : Int32 × ao_S → Prop} (nx : ∀ M ρ, LW (m + 1) M ρ → hv (fun n => fL_law L xs n 23 0 537 598 (nI (6 * (m + 1))) 0 0 0 0 0 0 M ρ) Q) : hv (fun n => fL_law L xs n 23 0 537 598 (nI (6 * m)) 0 0 0 0 0 0 M ρ) Q := by
  have c0 := lw_c0 hL hi
  have hm : m + 1 ≤ 512 := by omega
  refine hv_up (fun _ => fL_law.eq_2 ..) ?_
  simp (disch := omega) only [Nat.reduceEqDiff, ↓reduceIte, ao_let, n_addl, n_cl, n_ltl, f_lt, f_le, or_self, not_false_eq_true, Nat.reduceMul, Nat.reduceAdd, n_ell, c0, h9]
  refine hv_bind (LW_step (cf := fun M ρ n => gL_feed n 0 (xs (6 * m + 1)) (xs (6 * m + 2)) (xs (6 * m + 3)) (xs (6 * m + 4)) (xs (6 * m + 5)) 598 M ρ) (rf := fun M ρ n => (gX12_feed n 537 (xs (6 * m + 1)) (xs (6 * m + 2)) (xs (6 * m + 3)) (xs (6 * m + 4)) (xs (6 * m + 5)) M ρ).map (fun p => (p.1, p.2, ρ))) (fun y1 My w1 Mw => Mw 537 0 = y1 ∧ (y1 = 0 → My 598 0 = w1))
    (fun B1 B2 E1 E2 C ρ D σ hP => hv_mono (PR_feed hP hm (xs (6 * m + 1)) (xs (6 * m + 2)) (xs (6 * m + 3)) (xs (6 * m + 4)) (xs (6 * m + 5))) (fun y hy => hv_map hy (fun w hw => ⟨hw.1, hw.2.1, hw.2.2⟩)))
    (fun W M0 ρ0 M ρ w0 w598 hI n z hz => hc_gL_feed w0 hI w0 w598 z hz)
    (fun W M0 ρ0 M ρ o0 w537 hI n z hz => by
    obtain ⟨p, hp, rfl⟩ := Option.map_eq_some_iff.mp hz
    exact hd_gX12_feed o0 hI (okl w537) p hp) h) ?_
  rintro ⟨k, M1, ρ2⟩ ⟨k537, -, hr⟩
  dsimp only at k537 hr
  refine hv_up (fun _ => fL_law.eq_2 ..) ?_
  simp (disch := omega) only [Nat.reduceEqDiff, ↓reduceIte, ao_let, n_addl, n_cl, n_ltl, f_lt, f_le, or_self, not_false_eq_true, Nat.reduceMul, Nat.reduceAdd, n_ell, k537]
  refine hv_bind (hv_unmap (map_inj ρ2) hr) ?_
  rintro ⟨v, M2⟩ ⟨hLW, e598, e0, ev⟩
  dsimp only at hLW e598 e0 ev ⊢
  have O1 := LW_O hLW
  simp only [gX12_thrown, k537, ↓reduceIte, Option.bind_some, e0]
  by_cases q : k = 0
  · subst q
    have e1 : M2 598 0 = v := by rw [e598]; exact ev rfl
    simp only [↓reduceIte, O1.1, O1.2, Int32.reduceLT, Int32.reduceToNatClampNeg, e1, lg_self, Nat.reduceLeDiff, or_self, not_false_eq_true]
    exact lw_e225 (nx M2 ρ2 hLW)
  · simp only [q, ↓reduceIte]
    exact lw_e225 (nx M2 ρ2 hLW)
set_option maxHeartbeats 4000000 in
set_option maxRecDepth 100000 in
theorem lw_end {L m : Nat} {xs : Nat → Int32} {M : ao_M} {ρ : ao_H} (hL : L ≤ 3072) (hi : 6 * m + 6 ≤ L) (h : LW m M ρ) (h9 : xs (6 * m) &&& 31 = 1) {Q : Int32 × ao_S → Prop} (nx : ∀ M ρ, LW (m + 1) M ρ → hv (fun n => fL_law L xs n 23 0 537 598 (nI (6 * (m + 1))) 0 0 0 0 0 0 M ρ) Q) : hv (fun n => fL_law L xs n 23 0 537 598 (nI (6 * m)) 0 0 0 0 0 0 M ρ) Q := by
  have c0 := lw_c0 hL hi
  have hm : m + 1 ≤ 512 := by omega
  refine hv_up (fun _ => fL_law.eq_2 ..) ?_
  simp (disch := omega) only [Nat.reduceEqDiff, ↓reduceIte, ao_let, n_addl, n_cl, n_ltl, f_lt, f_le, or_self, not_false_eq_true, Nat.reduceMul, Nat.reduceAdd, n_ell, c0, h9]
  refine hv_bind (LW_step (cf := fun M ρ n => gL_end n 0 (xs (6 * m + 1)) 598 M ρ) (rf := fun M ρ n => (gX12_end n 537 (xs (6 * m + 1)) M ρ).map (fun p => (p.1, p.2, ρ))) (fun y1 My w1 Mw => Mw 537 0 = y1 ∧ (y1 = 0 → My 598 0 = w1))
    (fun B1 B2 E1 E2 C ρ D σ hP => hv_mono (PR_end hP hm (xs (6 * m + 1))) (fun y hy => hv_map hy (fun w hw => ⟨hw.1, hw.2.1, hw.2.2⟩)))
    (fun W M0 ρ0 M ρ w0 w598 hI n z hz => hc_gL_end w0 hI w0 w598 z hz)
    (fun W M0 ρ0 M ρ o0 w537 hI n z hz => by
    obtain ⟨p, hp, rfl⟩ := Option.map_eq_some_iff.mp hz
    exact hd_gX12_end o0 hI (okl w537) p hp) h) ?_
  rintro ⟨k, M1, ρ2⟩ ⟨k537, -, hr⟩
  dsimp only at k537 hr
  refine hv_up (fun _ => fL_law.eq_2 ..) ?_
  simp (disch := omega) only [Nat.reduceEqDiff, ↓reduceIte, ao_let, n_addl, n_cl, n_ltl, f_lt, f_le, or_self, not_false_eq_true, Nat.reduceMul, Nat.reduceAdd, n_ell, k537]
  refine hv_bind (hv_unmap (map_inj ρ2) hr) ?_
  rintro ⟨v, M2⟩ ⟨hLW, e598, e0, ev⟩
  dsimp only at hLW e598 e0 ev ⊢
  have O1 := LW_O hLW
  simp only [gX12_thrown, k537, ↓reduceIte, Option.bind_some, e0]
  by_cases q : k = 0
  · subst q
    have e1 : M2 598 0 = v := by rw [e598]; exact ev rfl
    simp only [↓reduceIte, O1.1, O1.2, Int32.reduceLT, Int32.reduceToNatClampNeg, e1, lg_self, Nat.reduceLeDiff, or_self, not_false_eq_true]
    exact lw_e281 (nx M2 ρ2 hLW)
  · simp only [q, ↓reduceIte]
    exact lw_e281 (nx M2 ρ2 hLW)
set_option maxHeartbeats 4000000 in
set_option maxRecDepth 100000 in
theorem lw_start {L m : Nat} {xs : Nat → Int32} {M : ao_M} {ρ : ao_H} (hL : L ≤ 3072) (hi : 6 * m + 6 ≤ L) (h : LW m M ρ) (h9 : xs (6 * m) &&& 31 = 2) {Q : Int32 × ao_S → Prop} (nx : ∀ M ρ, LW (m + 1) M ρ → hv (fun n => fL_law L xs n 23 0 537 598 (nI (6 * (m + 1))) 0 0 0 0 0 0 M ρ) Q) : hv (fun n => fL_law L xs n 23 0 537 598 (nI (6 * m)) 0 0 0 0 0 0 M ρ) Q := by
  have c0 := lw_c0 hL hi
  have hm : m + 1 ≤ 512 := by omega
  refine hv_up (fun _ => fL_law.eq_2 ..) ?_
  simp (disch := omega) only [Nat.reduceEqDiff, ↓reduceIte, ao_let, n_addl, n_cl, n_ltl, f_lt, f_le, or_self, not_false_eq_true, Nat.reduceMul, Nat.reduceAdd, n_ell, c0, h9]
  refine hv_bind (LW_step (cf := fun M ρ n => gL_start n 0 (xs (6 * m + 1)) M ρ) (rf := fun M ρ n => (gX12_start n 537 (xs (6 * m + 1)) M ρ).map (fun p => (0, p, ρ))) (fun y1 _ _ Mw => Mw 537 0 = y1)
    (fun B1 B2 E1 E2 C ρ D σ hP => hv_mono (PR_start hP hm (xs (6 * m + 1))) (fun y hy => hv_map hy (fun w hw => ⟨hw.1, hw.2.1⟩)))
    (fun W M0 ρ0 M ρ w0 w598 hI n z hz => hc_gL_start w0 hI w0 z hz)
    (fun W M0 ρ0 M ρ o0 w537 hI n z hz => by
    obtain ⟨p, hp, rfl⟩ := Option.map_eq_some_iff.mp hz
    exact hd_gX12_start o0 hI (okl w537) p hp) h) ?_
  rintro ⟨k, M1, ρ2⟩ ⟨k537, -, hr⟩
  dsimp only at k537 hr
  refine hv_up (fun _ => fL_law.eq_2 ..) ?_
  simp (disch := omega) only [Nat.reduceEqDiff, ↓reduceIte, ao_let, n_addl, n_cl, n_ltl, f_lt, f_le, or_self, not_false_eq_true, Nat.reduceMul, Nat.reduceAdd, n_ell, k537]
  refine hv_bind (hv_unmap (F := fun p : ao_M => ((0, p, ρ2) : Int32 × ao_S)) (fun a b q => by cases q; rfl) hr) ?_
  rintro M2 ⟨hLW, e598, e0⟩
  dsimp only at hLW e598 e0
  simp only [gX12_thrown, k537, ↓reduceIte, Option.bind_some, e0]
  exact lw_e1106 (nx M2 ρ2 hLW)
set_option maxHeartbeats 4000000 in
set_option maxRecDepth 100000 in
theorem lw_program {L m : Nat} {xs : Nat → Int32} {M : ao_M} {ρ : ao_H} (hL : L ≤ 3072) (hi : 6 * m + 6 ≤ L) (h : LW m M ρ) (h9 : xs (6 * m) &&& 31 = 3) {Q : Int32 × ao_S → Prop} (nx : ∀ M ρ, LW (m + 1) M ρ → hv (fun n => fL_law L xs n 23 0 537 598 (nI (6 * (m + 1))) 0 0 0 0 0 0 M ρ) Q) : hv (fun n => fL_law L xs n 23 0 537 598 (nI (6 * m)) 0 0 0 0 0 0 M ρ) Q := by
  have c0 := lw_c0 hL hi
  have hm : m + 1 ≤ 512 := by omega
  refine hv_up (fun _ => fL_law.eq_2 ..) ?_
  simp (disch := omega) only [Nat.reduceEqDiff, ↓reduceIte, ao_let, n_addl, n_cl, n_ltl, f_lt, f_le, or_self, not_false_eq_true, Nat.reduceMul, Nat.reduceAdd, n_ell, c0, h9]
  refine hv_bind (LW_step (cf := fun M ρ n => gL_program n 0 (xs (6 * m + 1)) 598 M ρ) (rf := fun M ρ n => gX12_program n 537 (xs (6 * m + 1)) M ρ) (fun y1 My w1 Mw => Mw 537 0 = y1 ∧ (y1 = 0 → My 598 0 = w1))
    (fun B1 B2 E1 E2 C ρ D σ hP => hv_mono (PR_program hP hm (xs (6 * m + 1))) (fun y hy => hv_mono hy (fun w hw => ⟨hw.1, hw.2.1, hw.2.2⟩)))
    (fun W M0 ρ0 M ρ w0 w598 hI n z hz => hc_gL_program w0 hI w0 w598 z hz)
    (fun W M0 ρ0 M ρ o0 w537 hI n z hz => hd_gX12_program o0 hI (okl w537) z hz) h) ?_
  rintro ⟨k, M1, ρ1⟩ ⟨k537, -, hr⟩
  dsimp only at k537 hr
  refine hv_up (fun _ => fL_law.eq_2 ..) ?_
  simp (disch := omega) only [Nat.reduceEqDiff, ↓reduceIte, ao_let, n_addl, n_cl, n_ltl, f_lt, f_le, or_self, not_false_eq_true, Nat.reduceMul, Nat.reduceAdd, n_ell, k537]
  refine hv_bind hr ?_
  rintro ⟨v, M2, ρ2⟩ ⟨hLW, e598, e0, ev⟩
  dsimp only at hLW e598 e0 ev ⊢
  have O1 := LW_O hLW
  have k537 := LW_D hLW
  refine hv_up (fun _ => fL_law.eq_2 ..) ?_
  simp (disch := omega) only [Nat.reduceEqDiff, ↓reduceIte, ao_let, n_addl, n_cl, n_ltl, f_lt, f_le, or_self, not_false_eq_true, Nat.reduceMul, Nat.reduceAdd, n_ell, k537]
  simp only [gX12_thrown, k537, ↓reduceIte, Option.bind_some, e0]
  by_cases q : k = 0
  · subst q
    have e1 : M2 598 0 = v := by rw [e598]; exact ev rfl
    simp only [↓reduceIte, O1.1, O1.2, Int32.reduceLT, Int32.reduceToNatClampNeg, e1, lg_self, Nat.reduceLeDiff, or_self, not_false_eq_true]
    exact lw_e373 (nx M2 ρ2 hLW)
  · simp only [q, ↓reduceIte]
    exact lw_e373 (nx M2 ρ2 hLW)
set_option maxHeartbeats 4000000 in
set_option maxRecDepth 100000 in
theorem lw_place {L m : Nat} {xs : Nat → Int32} {M : ao_M} {ρ : ao_H} (hL : L ≤ 3072) (hi : 6 * m + 6 ≤ L) (h : LW m M ρ) (h9 : xs (6 * m) &&& 31 = 4) {Q : Int32 × ao_S → Prop} (nx : ∀ M ρ, LW (m + 1) M ρ → hv (fun n => fL_law L xs n 23 0 537 598 (nI (6 * (m + 1))) 0 0 0 0 0 0 M ρ) Q) : hv (fun n => fL_law L xs n 23 0 537 598 (nI (6 * m)) 0 0 0 0 0 0 M ρ) Q := by
  have c0 := lw_c0 hL hi
  have hm : m + 1 ≤ 512 := by omega
  have k0 := LW_A h
  have k5 := LW_D h
  refine hv_up (fun _ => fL_law.eq_2 ..) ?_
  simp (disch := omega) only [Nat.reduceEqDiff, ↓reduceIte, ao_let, n_addl, n_cl, n_ltl, f_lt, f_le, or_self, not_false_eq_true, Nat.reduceMul, Nat.reduceAdd, n_ell, c0, h9, k0, k5]
  have st := LW_step (cf := fun M ρ n => (gX10_place 0 M ρ).map (fun p => (p.1, p.2, ρ))) (rf := fun M ρ n => (gX12_place 537 M ρ).map (fun p => (p.1, p.2, ρ))) (fun y1 _ w1 _ => y1 = w1)
    (fun B1 B2 E1 E2 C ρ D σ hP => by
      obtain ⟨p1, p2, p3⟩ := PR_place hP hm
      exact ⟨0, (C 0 5, C, ρ), fun n _ => by show (gX10_place 0 C ρ).map _ = _; rw [p1]; rfl, 0, (C 0 5, ao_u D 537 0 0, σ), fun n _ => by show (gX12_place 537 D σ).map _ = _; rw [p2]; rfl, p3, rfl⟩)
    (fun W M0 ρ0 M ρ w0 w598 hI n z hz => by
      obtain ⟨p, hp, rfl⟩ := Option.map_eq_some_iff.mp hz
      exact hc_gX10_place w0 hI w0 p hp)
    (fun W M0 ρ0 M ρ o0 w537 hI n z hz => by
      obtain ⟨p, hp, rfl⟩ := Option.map_eq_some_iff.mp hz
      exact hd_gX12_place o0 hI (okl w537) p hp) h
  refine hv_bind (hv_unmap (g := fun _ => gX10_place 0 M ρ) (map_inj ρ) st) ?_
  rintro ⟨y1, M1⟩ ⟨-, -, hr⟩
  dsimp only at hr ⊢
  refine hv_bind (hv_unmap (g := fun _ => gX12_place 537 M1 ρ) (map_inj ρ) hr) ?_
  rintro ⟨v, M2⟩ ⟨hLW, e598, e0⟩
  dsimp only at hLW e598 e0 ⊢
  refine hv_ifT e0 ?_
  exact lw_e1106 (nx M2 ρ hLW)
set_option maxHeartbeats 4000000 in
set_option maxRecDepth 100000 in
theorem lw_put {L m : Nat} {xs : Nat → Int32} {M : ao_M} {ρ : ao_H} (hL : L ≤ 3072) (hi : 6 * m + 6 ≤ L) (h : LW m M ρ) (h9 : xs (6 * m) &&& 31 = 5) {Q : Int32 × ao_S → Prop} (nx : ∀ M ρ, LW (m + 1) M ρ → hv (fun n => fL_law L xs n 23 0 537 598 (nI (6 * (m + 1))) 0 0 0 0 0 0 M ρ) Q) : hv (fun n => fL_law L xs n 23 0 537 598 (nI (6 * m)) 0 0 0 0 0 0 M ρ) Q := by
  have c0 := lw_c0 hL hi
  have hm : m + 1 ≤ 512 := by omega
  refine hv_up (fun _ => fL_law.eq_2 ..) ?_
  simp (disch := omega) only [Nat.reduceEqDiff, ↓reduceIte, ao_let, n_addl, n_cl, n_ltl, f_lt, f_le, or_self, not_false_eq_true, Nat.reduceMul, Nat.reduceAdd, n_ell, c0, h9]
  refine hv_bind (LW_step (cf := fun M ρ n => gL_put n 0 (xs (6 * m + 1)) (xs (6 * m + 2)) 598 M ρ) (rf := fun M ρ n => gX12_put n 537 (xs (6 * m + 1)) (xs (6 * m + 2)) M ρ) (fun y1 My w1 Mw => Mw 537 0 = y1 ∧ (y1 = 0 → My 598 0 = w1))
    (fun B1 B2 E1 E2 C ρ D σ hP => hv_mono (PR_put hP hm (xs (6 * m + 1)) (xs (6 * m + 2))) (fun y hy => hv_mono hy (fun w hw => ⟨hw.1, hw.2.1, hw.2.2⟩)))
    (fun W M0 ρ0 M ρ w0 w598 hI n z hz => hc_gL_put w0 hI w0 w598 z hz)
    (fun W M0 ρ0 M ρ o0 w537 hI n z hz => hd_gX12_put o0 hI (okl w537) z hz) h) ?_
  rintro ⟨k, M1, ρ1⟩ ⟨k537, -, hr⟩
  dsimp only at k537 hr
  refine hv_up (fun _ => fL_law.eq_2 ..) ?_
  simp (disch := omega) only [Nat.reduceEqDiff, ↓reduceIte, ao_let, n_addl, n_cl, n_ltl, f_lt, f_le, or_self, not_false_eq_true, Nat.reduceMul, Nat.reduceAdd, n_ell, k537]
  refine hv_bind hr ?_
  rintro ⟨v, M2, ρ2⟩ ⟨hLW, e598, e0, ev⟩
  dsimp only at hLW e598 e0 ev ⊢
  have O1 := LW_O hLW
  have k537 := LW_D hLW
  refine hv_up (fun _ => fL_law.eq_2 ..) ?_
  simp (disch := omega) only [Nat.reduceEqDiff, ↓reduceIte, ao_let, n_addl, n_cl, n_ltl, f_lt, f_le, or_self, not_false_eq_true, Nat.reduceMul, Nat.reduceAdd, n_ell, k537]
  simp only [gX12_thrown, k537, ↓reduceIte, Option.bind_some, e0]
  by_cases q : k = 0
  · subst q
    have e1 : M2 598 0 = v := by rw [e598]; exact ev rfl
    simp only [↓reduceIte, O1.1, O1.2, Int32.reduceLT, Int32.reduceToNatClampNeg, e1, lg_self, Nat.reduceLeDiff, or_self, not_false_eq_true]
    exact lw_e454 (nx M2 ρ2 hLW)
  · simp only [q, ↓reduceIte]
    exact lw_e454 (nx M2 ρ2 hLW)
set_option maxHeartbeats 4000000 in
set_option maxRecDepth 100000 in
theorem lw_turn {L m : Nat} {xs : Nat → Int32} {M : ao_M} {ρ : ao_H} (hL : L ≤ 3072) (hi : 6 * m + 6 ≤ L) (h : LW m M ρ) (h9 : xs (6 * m) &&& 31 = 6) {Q : Int32 × ao_S → Prop} (nx : ∀ M ρ, LW (m + 1) M ρ → hv (fun n => fL_law L xs n 23 0 537 598 (nI (6 * (m + 1))) 0 0 0 0 0 0 M ρ) Q) : hv (fun n => fL_law L xs n 23 0 537 598 (nI (6 * m)) 0 0 0 0 0 0 M ρ) Q := by
  have c0 := lw_c0 hL hi
  have hm : m + 1 ≤ 512 := by omega
  refine hv_up (fun _ => fL_law.eq_2 ..) ?_
  simp (disch := omega) only [Nat.reduceEqDiff, ↓reduceIte, ao_let, n_addl, n_cl, n_ltl, f_lt, f_le, or_self, not_false_eq_true, Nat.reduceMul, Nat.reduceAdd, n_ell, c0, h9]
  refine hv_bind (LW_step (cf := fun M ρ n => gL_turn n 0 (xs (6 * m + 1)) 598 M ρ) (rf := fun M ρ n => gX12_turn n 537 (xs (6 * m + 1)) M ρ) (fun y1 My w1 Mw => Mw 537 0 = y1 ∧ (y1 = 0 → My 598 0 = w1))
    (fun B1 B2 E1 E2 C ρ D σ hP => hv_mono (PR_turn hP hm (xs (6 * m + 1))) (fun y hy => hv_mono hy (fun w hw => ⟨hw.1, hw.2.1, hw.2.2⟩)))
    (fun W M0 ρ0 M ρ w0 w598 hI n z hz => hc_gL_turn w0 hI w0 w598 z hz)
    (fun W M0 ρ0 M ρ o0 w537 hI n z hz => hd_gX12_turn o0 hI (okl w537) z hz) h) ?_
  rintro ⟨k, M1, ρ1⟩ ⟨k537, -, hr⟩
  dsimp only at k537 hr
  refine hv_up (fun _ => fL_law.eq_2 ..) ?_
  simp (disch := omega) only [Nat.reduceEqDiff, ↓reduceIte, ao_let, n_addl, n_cl, n_ltl, f_lt, f_le, or_self, not_false_eq_true, Nat.reduceMul, Nat.reduceAdd, n_ell, k537]
  refine hv_bind hr ?_
  rintro ⟨v, M2, ρ2⟩ ⟨hLW, e598, e0, ev⟩
  dsimp only at hLW e598 e0 ev ⊢
  have O1 := LW_O hLW
  have k537 := LW_D hLW
  refine hv_up (fun _ => fL_law.eq_2 ..) ?_
  simp (disch := omega) only [Nat.reduceEqDiff, ↓reduceIte, ao_let, n_addl, n_cl, n_ltl, f_lt, f_le, or_self, not_false_eq_true, Nat.reduceMul, Nat.reduceAdd, n_ell, k537]
  simp only [gX12_thrown, k537, ↓reduceIte, Option.bind_some, e0]
  by_cases q : k = 0
  · subst q
    have e1 : M2 598 0 = v := by rw [e598]; exact ev rfl
    simp only [↓reduceIte, O1.1, O1.2, Int32.reduceLT, Int32.reduceToNatClampNeg, e1, lg_self, Nat.reduceLeDiff, or_self, not_false_eq_true]
    exact lw_e510 (nx M2 ρ2 hLW)
  · simp only [q, ↓reduceIte]
    exact lw_e510 (nx M2 ρ2 hLW)
set_option maxHeartbeats 4000000 in
set_option maxRecDepth 100000 in
theorem lw_round {L m : Nat} {xs : Nat → Int32} {M : ao_M} {ρ : ao_H} (hL : L ≤ 3072) (hi : 6 * m + 6 ≤ L) (h : LW m M ρ) (h9 : xs (6 * m) &&& 31 = 7) {Q : Int32 × ao_S → Prop} (nx : ∀ M ρ, LW (m + 1) M ρ → hv (fun n => fL_law L xs n 23 0 537 598 (nI (6 * (m + 1))) 0 0 0 0 0 0 M ρ) Q) : hv (fun n => fL_law L xs n 23 0 537 598 (nI (6 * m)) 0 0 0 0 0 0 M ρ) Q := by
  have c0 := lw_c0 hL hi
  have hm : m + 1 ≤ 512 := by omega
  refine hv_up (fun _ => fL_law.eq_2 ..) ?_
  simp (disch := omega) only [Nat.reduceEqDiff, ↓reduceIte, ao_let, n_addl, n_cl, n_ltl, f_lt, f_le, or_self, not_false_eq_true, Nat.reduceMul, Nat.reduceAdd, n_ell, c0, h9]
  refine hv_bind (LW_step (cf := fun M ρ n => gL_round n 0 (xs (6 * m + 1)) 598 M ρ) (rf := fun M ρ n => gX12_round n 537 (xs (6 * m + 1)) M ρ) (fun y1 My w1 Mw => Mw 537 0 = y1 ∧ (y1 = 0 → My 598 0 = w1))
    (fun B1 B2 E1 E2 C ρ D σ hP => hv_mono (PR_round hP hm (xs (6 * m + 1))) (fun y hy => hv_mono hy (fun w hw => ⟨hw.1, hw.2.1, hw.2.2⟩)))
    (fun W M0 ρ0 M ρ w0 w598 hI n z hz => hc_gL_round w0 hI w0 w598 z hz)
    (fun W M0 ρ0 M ρ o0 w537 hI n z hz => hd_gX12_round o0 hI (okl w537) z hz) h) ?_
  rintro ⟨k, M1, ρ1⟩ ⟨k537, -, hr⟩
  dsimp only at k537 hr
  refine hv_up (fun _ => fL_law.eq_2 ..) ?_
  simp (disch := omega) only [Nat.reduceEqDiff, ↓reduceIte, ao_let, n_addl, n_cl, n_ltl, f_lt, f_le, or_self, not_false_eq_true, Nat.reduceMul, Nat.reduceAdd, n_ell, k537]
  refine hv_bind hr ?_
  rintro ⟨v, M2, ρ2⟩ ⟨hLW, e598, e0, ev⟩
  dsimp only at hLW e598 e0 ev ⊢
  have O1 := LW_O hLW
  have k537 := LW_D hLW
  refine hv_up (fun _ => fL_law.eq_2 ..) ?_
  simp (disch := omega) only [Nat.reduceEqDiff, ↓reduceIte, ao_let, n_addl, n_cl, n_ltl, f_lt, f_le, or_self, not_false_eq_true, Nat.reduceMul, Nat.reduceAdd, n_ell, k537]
  simp only [gX12_thrown, k537, ↓reduceIte, Option.bind_some, e0]
  by_cases q : k = 0
  · subst q
    have e1 : M2 598 0 = v := by rw [e598]; exact ev rfl
    simp only [↓reduceIte, O1.1, O1.2, Int32.reduceLT, Int32.reduceToNatClampNeg, e1, lg_self, Nat.reduceLeDiff, or_self, not_false_eq_true]
    exact lw_e566 (nx M2 ρ2 hLW)
  · simp only [q, ↓reduceIte]
    exact lw_e566 (nx M2 ρ2 hLW)
