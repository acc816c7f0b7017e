set_option linter.unusedSimpArgs false
set_option linter.unusedVariables false
/-! ===== levels are left: reads go outwards, writes go back ===== -/
theorem fold_pair {ρ σ : ao_H} (hb : ShB ρ) (hs : ShD σ) {C D : ao_M} {rc t l dp : Nat} (ht : t < 6) (hl : l < dp) (hd : dp ≤ 10) (x1 : Int32) (hx1 : x1 = nI l - 1 ∨ l = 0 ∧ x1 = 0) (h8 : C (92 + 71 * t) 8 = nI dp) (h56 : D 556 t = nI dp) (hrd : ∀ j, j < dp → Rd C D rc t j) (hrc : D 537 64 = nI rc) (hbd : rc + 260 < 2147483648) :
    hv (fun n => gX2_foldReads n (92 + 71 * t) x1 C ρ) (fun C' => hv (fun n => gX12_takeBackTo n 537 (nI t) (nI l) 1 D σ) (fun D' => foldP C D (decide (D 537 27 = 3 ∨ D 537 27 = 4)) rc t l (dp - l) C' D')) := by
  have hR := RnS_of hb ht
  have el : l + (dp - l) = dp := by omega
  unfold gX2_foldReads
  refine hv_up (fun _ => fX2_foldReads.eq_2 ..) ?_
  simp only [↓reduceIte, hR, ao_let, h8]
  have := fold_loop hb hs ht (show l < 10 by omega) (decide (D 537 27 = 3 ∨ D 537 27 = 4)) x1 hx1 (dp - l) C D rc (by omega) rfl (fun j hj => hrd j (by omega)) hrc (by omega)
  rw [el] at this
  refine hv_mono this ?_
  intro C' hC'
  unfold gX12_takeBackTo
  refine hv_up (fun _ => fX12_takeBackTo.eq_2 ..) ?_
  simp (disch := omega) only [↓reduceIte, hs, ao_let, n_ltl, n_cl, f_lt, f_le, or_self, not_false_eq_true, Option.bind_some, h56]
  exact hC'
/-- places, when levels were left -/
theorem Rpl_leave {kp rc t l m : Nat} {C D C1 D' : ao_M} {ρ σ : ao_H} {e : Bool} (ht : t < 6) (hk : l + m ≤ 10) (r : Rpl kp C ρ D σ) (hw : ∀ j, l ≤ j → j < l + m → Wr C D t j) (hf : foldP C D e rc t l m C1 D') : Rpl kp (cTB e t l m C1) ρ D' σ := by
  obtain ⟨rc', a1, a2, a3, a4, a5, a6, a7, a8⟩ := hf
  have c1 : ∀ x i, (x < 92 + 71 * t + 8 ∨ 92 + 71 * t + 68 ≤ x) → C1 x i = C x i := fun x i hx => a5 x i (by
    rintro ⟨j, h1, h2⟩
    omega)
  have r1 : Rpl kp C1 ρ D σ := Rpl_cell (k := 0) r (fun x i hx => c1 x i (by omega)) (fun _ _ _ => rfl)
  have w1 : ∀ j, l ≤ j → j < l + m → Wr C1 D t j := fun j h1 h2 => by
    have hw' := hw j h1 h2
    have e6 : C1 (92 + 71 * t + 8 + 6 * j) 6 = C (92 + 71 * t + 8 + 6 * j) 6 := a5 _ _ (by
      rintro ⟨q, q1, q2⟩
      omega)
    have e4 : ∀ p, C1 (92 + 71 * t + 8 + 6 * j + 4) p = C (92 + 71 * t + 8 + 6 * j + 4) p := fun p => a5 _ _ (by
      rintro ⟨q, q1, q2⟩
      omega)
    exact ⟨fun p hp => by rw [e6]; exact hw'.1 p hp, fun p hp => by rw [e6, e4]; exact hw'.2 p hp⟩
  have r2 : Rpl kp (cTB e t l m C1) ρ (dTB e t l m D) σ := Rpl_tb ht hk r1 w1 (fun _ _ _ => rfl) (fun i => ⟨_, rfl⟩)
  exact Rpl_cell (k := 0) r2 (fun _ _ _ => rfl) (fun x i hx => a6 x i (by omega) (by omega) (by omega) (by omega) (by omega))
