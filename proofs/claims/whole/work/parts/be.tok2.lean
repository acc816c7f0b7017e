set_option linter.unusedSimpArgs false
set_option linter.unusedVariables false
theorem tok_ltr {σ : ao_H} {s : Fn} {len : Nat} {x1 : Int32} {Q : ao_M → Prop} : ∀ (k p : Nat) (D : ao_M), p + k = len → DT D σ s len → D 537 8 = nI p → (∀ D', DT D' σ s len → (∀ x j, ¬ (x = 537 ∧ j = 8) → D' x j = D x j) → D' 537 8 = nI (skp ltrP s k p) → hv (fun n => fX12_token n 89 537 x1 0 0 0 D' σ) Q) → hv (fun n => fX12_token n 89 537 x1 0 0 0 D σ) Q := by
  intro k
  induction k with
  | zero =>
    intro p D hk hD h8 q
    exact q D hD (fun _ _ _ => rfl) h8
  | succ k ih =>
    intro p D hk hD h8 q
    by_cases hp : ltrP (s p)
    · have a1 := hD.1
      have hb := d_byte hD (show p < len by omega)
      refine hv_up (fun _ => fX12_token.eq_2 ..) ?_
      simp only [Nat.reduceEqDiff, ↓reduceIte, if_pos a1, h8, hb, Option.bind_some]
      refine hv_bind (d_ltr (hD.2.2.2.2.2.2 p (by omega)).2) ?_
      rintro _ rfl
      dsimp only
      simp only [if_pos hp, if_neg (show ¬ (1 : Int32) = 0 by decide), ao_let, h8, show nI p + (1 : Int32) = nI (p + 1) from n_add]
      refine ih (p + 1) _ (by omega) (DT_fr hD (u_n2 (by omega)) (fun i => u_n1 (by omega))) u_eq (fun D' h1 h3 h4 => q D' h1 (fun x j hx => ?_) ?_)
      · rw [h3 x j hx]; exact u_ne (by omega)
      · rw [h4, skp, if_pos hp]
    · exact q D hD (fun _ _ _ => rfl) (by rw [skp, if_neg hp]; exact h8)
theorem tok_dgt {σ : ao_H} {s : Fn} {len : Nat} {x1 : Int32} {Q : ao_M → Prop} : ∀ (k p v : Nat) (D : ao_M), v ≤ 10000010 → p + k = len → DT D σ s len → D 537 8 = nI p → (∀ D', DT D' σ s len → (∀ x j, ¬ (x = 537 ∧ j = 8) → D' x j = D x j) → D' 537 8 = nI (skp dgtP s k p) → nmv s k p v ≤ 10000010 → hv (fun n => fX12_token n 203 537 x1 (nI (nmv s k p v)) 0 0 D' σ) Q) → hv (fun n => fX12_token n 203 537 x1 (nI v) 0 0 D σ) Q := by
  intro k
  induction k with
  | zero =>
    intro p v D hv0 hk hD h8 q
    exact q D hD (fun _ _ _ => rfl) h8 hv0
  | succ k ih =>
    intro p v D hv0 hk hD h8 q
    by_cases hp : dgtP (s p)
    · have a1 := hD.1
      have hb := d_byte hD (show p < len by omega)
      have hby := (hD.2.2.2.2.2.2 p (by omega)).2
      obtain ⟨g1, g2, g3⟩ := dg_of hby hp
      have nxt : ∀ v', v' ≤ 10000010 → nmv s (k + 1) p v = nmv s k (p + 1) v' → hv (fun n => fX12_token n 240 537 x1 (nI v') 0 0 D σ) Q := by
        intro v' hv' he
        refine hv_up (fun _ => fX12_token.eq_2 ..) ?_
        simp only [Nat.reduceEqDiff, ↓reduceIte, if_pos a1, ao_let, h8, show nI p + (1 : Int32) = nI (p + 1) from n_add]
        refine ih (p + 1) v' _ hv' (by omega) (DT_fr hD (u_n2 (by omega)) (fun i => u_n1 (by omega))) u_eq (fun D' h1 h3 h4 h5 => ?_)
        rw [← he] at h5 ⊢
        refine q D' h1 (fun x j hx => ?_) ?_ h5
        · rw [h3 x j hx]; exact u_ne (by omega)
        · rw [h4, skp, if_pos hp]
      have hi : ((1000000 : Int32) < nI v) = (1000000 < v) := n_lt (a := 1000000) (by decide) (by omega)
      refine hv_up (fun _ => fX12_token.eq_2 ..) ?_
      simp only [Nat.reduceEqDiff, ↓reduceIte, if_pos a1, h8, hb, Option.bind_some, d_dgt hby, if_pos hp, if_neg (show ¬ (1 : Int32) = 0 by decide)]
      by_cases h : v ≤ 1000000
      · refine hv_ifF (by rw [hi]; omega) ?_
        rw [show ((10 : Int32) * nI v + s p) - 48 = nI (10 * v + dg (s p)) from by
          rw [g2, show (10 : Int32) * nI v = nI (10 * v) from n_mul, n_add, show (48 : Int32) = nI 48 from rfl, n_sub (by omega)]
          congr 1
          have : dg (nI (48 + dg (s p))) = dg (s p) := by rw [← g2]
          omega]
        exact nxt _ (by omega) (by rw [nmv, if_pos hp, if_pos h])
      · refine hv_ifT (by rw [hi]; omega) ?_
        exact nxt _ (by omega) (by rw [nmv, if_pos hp, if_neg h])
    · refine q D hD (fun _ _ _ => rfl) (by rw [skp, if_neg hp]; exact h8) (by rw [nmv, if_neg hp]; exact hv0) |> fun h => ?_
      rw [nmv, if_neg hp] at h
      exact h
theorem TkP_tr {D D1 : ao_M} {σ : ao_H} {s : Fn} {len b : Nat} {y : ao_M} (h : TkP D1 σ s len b y) (hf : ∀ x j, ¬ (x = 537 ∧ (j = 8 ∨ j = 9 ∨ j = 10 ∨ j = 11)) → D1 x j = D x j) : TkP D σ s len b y := ⟨h.1, fun x j hx => (h.2.1 x j hx).trans (hf x j hx), h.2.2⟩
theorem tw_ok {σ : ao_H} {s : Fn} {len b : Nat} {D : ao_M} (hD : DT D σ s len) (hb : b < len) (h8 : D 537 8 = nI b) (h9 : D 537 9 = -1) (h11 : D 537 11 = nI b) (hl : ltrP (s b)) : hv (fun n => fX12_token n 89 537 (s b) 0 0 0 D σ) (fun y => TkP D σ s len b y) := by
  have a1 := hD.1
  have a6 := hD.2.2.2.2.2.1
  have hby := (hD.2.2.2.2.2.2 b hb).2
  have eE : tkE s len b = skp ltrP s (len - b) b := by unfold tkE; rw [if_neg (by omega), if_pos hl]
  have eK : tkK s len b = (if skp ltrP s (len - b) b - b = 1 then (if 97 ≤ s b ∧ s b ≤ 122 then 2 else 3) else kwd s b (skp ltrP s (len - b) b - b) 12 0) := by unfold tkK; rw [if_neg (by omega), if_pos hl]
  have eV : tkV s len b = (if skp ltrP s (len - b) b - b = 1 then (if 97 ≤ s b ∧ s b ≤ 122 then s b - 97 else s b - 65) else 0) := by unfold tkV; rw [if_neg (by omega), if_pos hl]
  obtain ⟨k1, k2, k3, k4⟩ := @skp_ge ltrP _ s (len - b) b
  have k5 : b < skp ltrP s (len - b) b := by
    refine Classical.byContradiction fun h => ?_
    have e : skp ltrP s (len - b) b = b := by omega
    rw [e] at k4
    exact k4 (by omega) hl
  refine tok_ltr (len - b) b D (by omega) hD h8 (fun D' hD' f1 f2 => ?_)
  have f9 : D' 537 9 = -1 := by rw [f1 _ _ (by omega), h9]
  have f11 : D' 537 11 = nI b := by rw [f1 _ _ (by omega), h11]
  generalize skp ltrP s (len - b) b = e at *
  have hsm : (s b < 97) = ¬ (97 ≤ s b ∧ s b ≤ 122) := propext (all_byte (P := fun x => ltrP x → (x < 97 ↔ ¬ (97 ≤ x ∧ x ≤ 122))) (by decide +kernel) _ hby.1 hby.2 hl)
  -- the letter or the word
  have core : hv (fun n => ao_let ((D' 537 8) - (D' 537 11)) fun v32 =>
        if v32 = (1 : Int32) then
          if s b < (97 : Int32) then
            fX12_token n 143 537 (s b) v32 (2 : Int32) 537 D' σ
          else
            fX12_token n 143 537 (s b) v32 (1 : Int32) 537 D' σ
        else
          (gX12_wordOf n 537 (D' 537 11) v32 D' σ).bind fun p34 =>
          ao_let (ao_u p34.2 537 10 p34.1) fun M35 =>
          if (M35 537 10) < 0 then
            some M35
          else
            ao_let (ao_u M35 537 9 (3 : Int32)) fun M37 =>
            some M37) (fun y => TkP D σ s len b y) := by
    simp only [ao_let, f2, f11, n_sub k1]
    by_cases h1 : e - b = 1
    · refine hv_ifT (by rw [h1]; rfl) ?_
      by_cases hs : 97 ≤ s b ∧ s b ≤ 122
      · refine hv_ifF (by rw [hsm]; exact fun h => h hs) ?_
        refine hv_up (fun _ => fX12_token.eq_2 ..) ?_
        simp only [Nat.reduceEqDiff, ↓reduceIte, if_pos a1, ao_let]
        refine hv_ifF (by rw [hsm]; exact fun h => h hs) ?_
        refine hv_up (fun _ => fX12_token.eq_2 ..) ?_
        simp only [Nat.reduceEqDiff, ↓reduceIte, if_pos a1, ao_let]
        have eK' : tkK s len b = 2 := by rw [eK, if_pos h1, if_pos hs]
        refine hv_some ⟨DT_fr hD' ?_ (fun i => ?_), fun x j hx => ?_, ?_, ?_, fun _ => ?_, ?_⟩
        · rw [u_n2 (by omega), u_n2 (by omega)]
        · rw [u_n1 (by omega), u_n1 (by omega)]
        · rw [u_ne (by omega), u_ne (by omega), f1 _ _ (by omega)]
        · rw [u_n2 (by omega), u_n2 (by omega), f2, eE]
        · rw [u_n2 (by omega), u_eq, eK']; rfl
        · rw [u_eq, eK', eV, if_pos h1, if_pos hs]; rfl
        · rw [u_n2 (by omega), u_n2 (by omega), f11]
      · refine hv_ifT (by rw [hsm]; exact hs) ?_
        refine hv_up (fun _ => fX12_token.eq_2 ..) ?_
        simp only [Nat.reduceEqDiff, ↓reduceIte, if_pos a1, ao_let]
        refine hv_ifT (by rw [hsm]; exact hs) ?_
        refine hv_up (fun _ => fX12_token.eq_2 ..) ?_
        simp only [Nat.reduceEqDiff, ↓reduceIte, if_pos a1, ao_let]
        have eK' : tkK s len b = 3 := by rw [eK, if_pos h1, if_neg hs]
        refine hv_some ⟨DT_fr hD' ?_ (fun i => ?_), fun x j hx => ?_, ?_, ?_, fun _ => ?_, ?_⟩
        · rw [u_n2 (by omega), u_n2 (by omega)]
        · rw [u_n1 (by omega), u_n1 (by omega)]
        · rw [u_ne (by omega), u_ne (by omega), f1 _ _ (by omega)]
        · rw [u_n2 (by omega), u_n2 (by omega), f2, eE]
        · rw [u_n2 (by omega), u_eq, eK']; rfl
        · rw [u_eq, eK', eV, if_pos h1, if_neg hs]; rfl
        · rw [u_n2 (by omega), u_n2 (by omega), f11]
    · refine hv_ifF (by rw [show (1 : Int32) = nI 1 from rfl, n_eq (by omega) (by omega)]; exact h1) ?_
      refine hv_bind (wo_ok hD' (nn := e - b) (by omega) (by omega) (fun i hi => k3 _ (by omega) (by omega))) ?_
      rintro ⟨y1, y2⟩ ⟨hy2, hy1⟩
      dsimp only at hy2 hy1
      subst hy2
      rcases hy1 with ⟨g1, rfl⟩ | ⟨w, g1, g2, rfl⟩
      · dsimp only
        simp only [u_eq]
        refine hv_ifT (by decide) ?_
        have eK' : tkK s len b = 1 := by rw [eK, if_neg h1, g1]
        refine hv_some ⟨DT_fr hD' ?_ (fun i => ?_), fun x j hx => ?_, ?_, ?_, fun h => ?_, ?_⟩
        · rw [u_n2 (by omega)]
        · rw [u_n1 (by omega)]
        · rw [u_ne (by omega), f1 _ _ (by omega)]
        · rw [u_n2 (by omega), f2, eE]
        · rw [u_n2 (by omega), f9, eK']; rfl
        · rw [eK'] at h; omega
        · rw [u_n2 (by omega), f11]
      · dsimp only
        simp only [u_eq]
        refine hv_ifF (by rw [show ((0 : Int32)) = nI 0 from rfl, n_lt (by omega) (by omega)]; omega) ?_
        have eK' : tkK s len b = 5 + w := by rw [eK, if_neg h1, g2]
        refine hv_some ⟨DT_fr hD' ?_ (fun i => ?_), fun x j hx => ?_, ?_, ?_, fun h => ?_, ?_⟩
        · rw [u_n2 (by omega), u_n2 (by omega)]
        · rw [u_n1 (by omega), u_n1 (by omega)]
        · rw [u_ne (by omega), u_ne (by omega), f1 _ _ (by omega)]
        · rw [u_n2 (by omega), u_n2 (by omega), f2, eE]
        · rw [u_eq, eK', rK, if_neg (by omega), if_neg (by omega), if_neg (by omega), if_neg (by omega), if_neg (by omega), if_pos (by omega)]
        · rw [u_n2 (by omega), u_eq, eK', rW, if_neg (by omega), if_pos (by omega), Nat.add_sub_cancel_left]
        · rw [u_n2 (by omega), u_n2 (by omega), f11]
  refine hv_up (fun _ => fX12_token.eq_2 ..) ?_
  by_cases he : e < len
  · simp only [Nat.reduceEqDiff, ↓reduceIte, if_pos a1, f2, d_byte hD' he, Option.bind_some]
    refine hv_bind (d_ltr (hD'.2.2.2.2.2.2 e he).2) ?_
    rintro _ rfl
    dsimp only
    simp only [if_neg (k4 (by omega)), ↓reduceIte]
    exact core
  · simp only [Nat.reduceEqDiff, ↓reduceIte, if_pos a1, f2, d_byteN hD' (show len ≤ e by omega) (by omega), Option.bind_some]
    refine hv_bind d_ltrN ?_
    rintro _ rfl
    dsimp only
    simp only [↓reduceIte]
    exact core
theorem tn_ok {σ : ao_H} {s : Fn} {len b : Nat} {D : ao_M} (hD : DT D σ s len) (hb : b < len) (h8 : D 537 8 = nI b) (h9 : D 537 9 = -1) (h11 : D 537 11 = nI b) (hl : ¬ ltrP (s b)) (hd : dgtP (s b)) : hv (fun n => fX12_token n 203 537 (s b) 0 0 0 D σ) (fun y => TkP D σ s len b y) := by
  have a1 := hD.1
  have a6 := hD.2.2.2.2.2.1
  have eE : tkE s len b = skp dgtP s (len - b) b := by unfold tkE; rw [if_neg (by omega), if_neg hl, if_pos hd]
  have eK : tkK s len b = (if nmv s (len - b) b 0 ≤ 1000000 then 4 else 1) := by unfold tkK; rw [if_neg (by omega), if_neg hl, if_pos hd]
  have eV : tkV s len b = nI (nmv s (len - b) b 0) := by unfold tkV; rw [if_neg (by omega), if_neg hl, if_pos hd]
  obtain ⟨k1, k2, k3, k4⟩ := @skp_ge dgtP _ s (len - b) b
  refine tok_dgt (len - b) b 0 D (by omega) (by omega) hD h8 (fun D' hD' f1 f2 f4 => ?_)
  have f9 : D' 537 9 = -1 := by rw [f1 _ _ (by omega), h9]
  have f11 : D' 537 11 = nI b := by rw [f1 _ _ (by omega), h11]
  generalize skp dgtP s (len - b) b = e at *
  generalize nmv s (len - b) b 0 = v at *
  have hi : ((1000000 : Int32) < nI v) = (1000000 < v) := n_lt (a := 1000000) (by decide) (by omega)
  have core : hv (fun n => ao_let (ao_u D' 537 10 (nI v)) fun M49 =>
        if (1000000 : Int32) < nI v then
          some M49
        else
          ao_let (ao_u M49 537 9 (4 : Int32)) fun M51 =>
          some M51) (fun y => TkP D σ s len b y) := by
    simp only [ao_let]
    by_cases h : v ≤ 1000000
    · refine hv_ifF (by rw [hi]; omega) ?_
      have eK' : tkK s len b = 4 := by rw [eK, if_pos h]
      refine hv_some ⟨DT_fr hD' ?_ (fun i => ?_), fun x j hx => ?_, ?_, ?_, fun h => ?_, ?_⟩
      · rw [u_n2 (by omega), u_n2 (by omega)]
      · rw [u_n1 (by omega), u_n1 (by omega)]
      · rw [u_ne (by omega), u_ne (by omega), f1 _ _ (by omega)]
      · rw [u_n2 (by omega), u_n2 (by omega), f2, eE]
      · rw [u_eq, eK']; rfl
      · rw [u_n2 (by omega), u_eq, eK', eV]; rfl
      · rw [u_n2 (by omega), u_n2 (by omega), f11]
    · refine hv_ifT (by rw [hi]; omega) ?_
      have eK' : tkK s len b = 1 := by rw [eK, if_neg h]
      refine hv_some ⟨DT_fr hD' ?_ (fun i => ?_), fun x j hx => ?_, ?_, ?_, fun h => ?_, ?_⟩
      · rw [u_n2 (by omega)]
      · rw [u_n1 (by omega)]
      · rw [u_ne (by omega), f1 _ _ (by omega)]
      · rw [u_n2 (by omega), f2, eE]
      · rw [u_n2 (by omega), f9, eK']; rfl
      · rw [eK'] at h; omega
      · rw [u_n2 (by omega), f11]
  refine hv_up (fun _ => fX12_token.eq_2 ..) ?_
  by_cases he : e < len
  · simp only [Nat.reduceEqDiff, ↓reduceIte, if_pos a1, f2, d_byte hD' he, Option.bind_some, d_dgt (hD'.2.2.2.2.2.2 e he).2, if_neg (k4 (by omega))]
    exact core
  · simp only [Nat.reduceEqDiff, ↓reduceIte, if_pos a1, f2, d_byteN hD' (show len ≤ e by omega) (by omega), Option.bind_some, d_dgtN]
    exact core
abbrev isg (x : Int32) : Prop := x = 123 ∨ x = 125 ∨ x = 40 ∨ x = 41 ∨ x = 59 ∨ x = 61 ∨ x = 60 ∨ x = 43 ∨ x = 45 ∨ x = 42
theorem t329 {D : ao_M} {σ : ao_H} {x : Int32} (a1 : σ.2.1 537 = 22) : hv (fun n => fX12_token n 329 537 x 0 0 0 D σ) (fun y => y = if isg x then ao_u D 537 9 5 else D) := by
  have st : isg x → hv (fun n => fX12_token n 389 537 x 0 0 0 D σ) (fun y => y = if isg x then ao_u D 537 9 5 else D) := by
    intro h
    refine hv_up (fun _ => fX12_token.eq_2 ..) ?_
    simp only [Nat.reduceEqDiff, ↓reduceIte, if_pos a1, ao_let, if_pos h]
    exact hv_some rfl
  refine hv_up (fun _ => fX12_token.eq_2 ..) ?_
  simp only [Nat.reduceEqDiff, ↓reduceIte]
  by_cases g123 : x = 123
  · exact hv_ifT g123 (st (by unfold isg; simp only [g123, true_or, or_true]))
  refine hv_ifF g123 ?_
  by_cases g125 : x = 125
  · exact hv_ifT g125 (st (by unfold isg; simp only [g125, true_or, or_true]))
  refine hv_ifF g125 ?_
  by_cases g40 : x = 40
  · exact hv_ifT g40 (st (by unfold isg; simp only [g40, true_or, or_true]))
  refine hv_ifF g40 ?_
  by_cases g41 : x = 41
  · exact hv_ifT g41 (st (by unfold isg; simp only [g41, true_or, or_true]))
  refine hv_ifF g41 ?_
  by_cases g59 : x = 59
  · exact hv_ifT g59 (st (by unfold isg; simp only [g59, true_or, or_true]))
  refine hv_ifF g59 ?_
  by_cases g61 : x = 61
  · exact hv_ifT g61 (st (by unfold isg; simp only [g61, true_or, or_true]))
  refine hv_ifF g61 ?_
  by_cases g60 : x = 60
  · exact hv_ifT g60 (st (by unfold isg; simp only [g60, true_or, or_true]))
  refine hv_ifF g60 ?_
  by_cases g43 : x = 43
  · exact hv_ifT g43 (st (by unfold isg; simp only [g43, true_or, or_true]))
  refine hv_ifF g43 ?_
  by_cases g45 : x = 45
  · exact hv_ifT g45 (st (by unfold isg; simp only [g45, true_or, or_true]))
  refine hv_ifF g45 ?_
  by_cases g42 : x = 42
  · exact hv_ifT g42 (st (by unfold isg; simp only [g42, true_or, or_true]))
  refine hv_ifF g42 ?_
  exact hv_some (by rw [if_neg (by unfold isg; simp only [g123, g125, g40, g41, g59, g61, g60, g43, g45, g42, or_self, not_false_eq_true])])
theorem ts_ok {σ : ao_H} {s : Fn} {len b : Nat} {D : ao_M} (hD : DT D σ s len) (hb : b < len) (h8 : D 537 8 = nI b) (h9 : D 537 9 = -1) (h11 : D 537 11 = nI b) (hl : ¬ ltrP (s b)) (hd : ¬ dgtP (s b)) : hv (fun n => fX12_token n 82 537 (s b) 0 0 0 D σ) (fun y => TkP D σ s len b y) := by
  have a1 := hD.1
  have a6 := hD.2.2.2.2.2.1
  have hby := (hD.2.2.2.2.2.2 b hb).2
  have eK : tkK s len b = if s b = 61 then (if b + 1 < len ∧ s (b + 1) = 61 then 23 else 22) else sgk (s b) := by
    unfold tkK; rw [if_neg (by omega), if_neg hl, if_neg hd]
  have eE : tkE s len b = if s b = 61 ∧ b + 1 < len ∧ s (b + 1) = 61 then b + 2 else b + 1 := by
    unfold tkE; rw [if_neg (by omega), if_neg hl, if_neg hd]
  refine hv_up (fun _ => fX12_token.eq_2 ..) ?_
  simp only [Nat.reduceEqDiff, ↓reduceIte]
  refine hv_bind (d_ltr hby) ?_
  rintro _ rfl
  dsimp only
  simp only [if_neg hl, ↓reduceIte, d_dgt hby, Option.bind_some, if_neg hd, if_pos a1, ao_let, h8, show nI b + (1 : Int32) = nI (b + 1) from n_add]
  have hD2 : DT (ao_u (ao_u D 537 8 (nI (b + 1))) 537 10 (s b)) σ s len := DT_fr hD (by rw [u_n2 (by omega), u_n2 (by omega)]) (fun i => by rw [u_n1 (by omega), u_n1 (by omega)])
  have e8 : (ao_u (ao_u D 537 8 (nI (b + 1))) 537 10 (s b)) 537 8 = nI (b + 1) := by rw [u_n2 (by omega), u_eq]
  have hf : ∀ x j, ¬ (x = 537 ∧ (j = 8 ∨ j = 10)) → (ao_u (ao_u D 537 8 (nI (b + 1))) 537 10 (s b)) x j = D x j := fun x j h => by rw [u_ne (by omega), u_ne (by omega)]
  have e10 : (ao_u (ao_u D 537 8 (nI (b + 1))) 537 10 (s b)) 537 10 = s b := u_eq
  generalize ao_u (ao_u D 537 8 (nI (b + 1))) 537 10 (s b) = D2 at *
  have one : tkE s len b = b + 1 → (isg (s b) → 2 ≤ tkK s len b ∧ rK (tkK s len b) = 5 ∧ rW (tkK s len b) (tkV s len b) = s b) → (¬ isg (s b) → tkK s len b = 1) → hv (fun n => fX12_token n 329 537 (s b) 0 0 0 D2 σ) (fun y => TkP D σ s len b y) := by
    intro g1 g2 g3
    refine hv_mono (t329 a1) ?_
    rintro _ rfl
    by_cases h : isg (s b)
    · obtain ⟨-, g4, g5⟩ := g2 h
      rw [if_pos h]
      refine ⟨DT_fr hD2 (u_n2 (by omega)) (fun i => u_n1 (by omega)), fun x j hx => ?_, ?_, ?_, fun _ => ?_, ?_⟩
      · rw [u_ne (by omega), hf _ _ (by omega)]
      · rw [u_n2 (by omega), e8, g1]
      · rw [u_eq, g4]
      · rw [u_n2 (by omega), e10, g5]
      · rw [u_n2 (by omega), hf _ _ (by omega), h11]
    · rw [if_neg h]
      have g4 := g3 h
      refine ⟨hD2, fun x j hx => hf _ _ (by omega), ?_, ?_, fun h => ?_, ?_⟩
      · rw [e8, g1]
      · rw [hf _ _ (by omega), h9, g4]; rfl
      · rw [g4] at h; omega
      · rw [hf _ _ (by omega), h11]
  have hsg : ¬ s b = 61 → (isg (s b) → 2 ≤ sgk (s b) ∧ rK (sgk (s b)) = 5 ∧ ∀ v, rW (sgk (s b)) v = s b) ∧ (¬ isg (s b) → sgk (s b) = 1) := by
    have h0 := all_byte (P := fun x => ¬ x = 61 → (isg x → 17 ≤ sgk x ∧ rK (sgk x) = 5 ∧ rW (sgk x) 0 = x) ∧ (¬ isg x → sgk x = 1)) (by decide +kernel) _ hby.1 hby.2
    intro h
    refine ⟨fun hi => ?_, (h0 h).2⟩
    obtain ⟨g1, g2, g3⟩ := (h0 h).1 hi
    refine ⟨by omega, g2, fun v => ?_⟩
    refine Eq.trans ?_ g3
    unfold rW
    rw [if_neg (by omega), if_neg (by omega), if_neg (by omega)]
  by_cases h61 : s b = 61
  · refine hv_ifT h61 ?_
    rw [e8]
    by_cases hn : b + 1 < len
    · simp only [d_byte hD2 hn, Option.bind_some]
      by_cases hq : s (b + 1) = 61
      · refine hv_ifT hq ?_
        have eK' : tkK s len b = 23 := by rw [eK, if_pos h61, if_pos ⟨hn, hq⟩]
        rw [e8]
        refine hv_some ⟨DT_fr hD2 ?_ (fun i => ?_), fun x j hx => ?_, ?_, ?_, fun _ => ?_, ?_⟩
        · rw [u_n2 (by omega), u_n2 (by omega), u_n2 (by omega)]
        · rw [u_n1 (by omega), u_n1 (by omega), u_n1 (by omega)]
        · rw [u_ne (by omega), u_ne (by omega), u_ne (by omega), hf _ _ (by omega)]
        · rw [u_n2 (by omega), u_n2 (by omega), u_eq, eE, if_pos ⟨h61, hn, hq⟩]
          exact n_add
        · rw [u_eq, eK']; rfl
        · rw [u_n2 (by omega), u_eq, eK']; rfl
        · rw [u_n2 (by omega), u_n2 (by omega), u_n2 (by omega), hf _ _ (by omega), h11]
      · refine hv_ifF hq ?_
        have eK' : tkK s len b = 22 := by rw [eK, if_pos h61, if_neg (fun h => hq h.2)]
        exact one (by rw [eE, if_neg (fun h => hq h.2.2)]) (fun _ => ⟨by omega, by rw [eK']; rfl, by rw [eK', h61]; rfl⟩) (fun h => absurd (by unfold isg; simp only [h61, true_or, or_true]) h)
    · simp only [d_byteN hD2 (show len ≤ b + 1 by omega) (by omega), Option.bind_some]
      refine hv_ifF (by decide) ?_
      have eK' : tkK s len b = 22 := by rw [eK, if_pos h61, if_neg (fun h => hn h.1)]
      exact one (by rw [eE, if_neg (fun h => hn h.2.1)]) (fun _ => ⟨by omega, by rw [eK']; rfl, by rw [eK', h61]; rfl⟩) (fun h => absurd (by unfold isg; simp only [h61, true_or, or_true]) h)
  · refine hv_ifF h61 ?_
    have eK' : tkK s len b = sgk (s b) := by rw [eK, if_neg h61]
    refine one (by rw [eE, if_neg (fun h => h61 h.1)]) (fun h => ?_) (fun h => ?_)
    · obtain ⟨g1, g2, g3⟩ := (hsg h61).1 h
      rw [eK']
      exact ⟨g1, g2, g3 _⟩
    · rw [eK']; exact (hsg h61).2 h
/-- a token of the reference -/
theorem tok_ok {σ : ao_H} {s : Fn} {len p : Nat} {D : ao_M} (hD : DT D σ s len) (hp : p ≤ len) (h8 : D 537 8 = nI p) : hv (fun n => gX12_token n 537 D σ) (fun y => TkP D σ s len (skp blkP s (len - p) p) y) := by
  have a1 := hD.1
  have a6 := hD.2.2.2.2.2.1
  unfold gX12_token
  obtain ⟨k1, k2, k3, k4⟩ := @skp_ge blkP _ s (len - p) p
  refine tok_blk (len - p) p D (by omega) hD h8 (fun D' hD' f1 f2 => ?_)
  generalize skp blkP s (len - p) p = b at *
  refine hv_up (fun _ => fX12_token.eq_2 ..) ?_
  have hD2 : DT (ao_u (ao_u D' 537 11 (nI b)) 537 9 (-1)) σ s len := DT_fr hD' (by rw [u_n2 (by omega), u_n2 (by omega)]) (fun i => by rw [u_n1 (by omega), u_n1 (by omega)])
  have hD1 : DT (ao_u D' 537 11 (nI b)) σ s len := DT_fr hD' (by rw [u_n2 (by omega)]) (fun i => by rw [u_n1 (by omega)])
  have e81 : (ao_u D' 537 11 (nI b)) 537 8 = nI b := by rw [u_n2 (by omega), f2]
  have e8 : (ao_u (ao_u D' 537 11 (nI b)) 537 9 (-1)) 537 8 = nI b := by rw [u_n2 (by omega), u_n2 (by omega), f2]
  have e9 : (ao_u (ao_u D' 537 11 (nI b)) 537 9 (-1)) 537 9 = -1 := u_eq
  have e11 : (ao_u (ao_u D' 537 11 (nI b)) 537 9 (-1)) 537 11 = nI b := by rw [u_n2 (by omega), u_eq]
  have hf : ∀ x j, ¬ (x = 537 ∧ (j = 8 ∨ j = 9 ∨ j = 10 ∨ j = 11)) → (ao_u (ao_u D' 537 11 (nI b)) 537 9 (-1)) x j = D x j := fun x j hx => by rw [u_ne (by omega), u_ne (by omega), f1 _ _ (by omega)]
  by_cases hb : b < len
  · have hby := (hD.2.2.2.2.2.2 b hb).2
    have n10 : ¬ s b = 10 := fun h => k4 (by omega) (Or.inl h)
    have n32 : ¬ s b = 32 := fun h => k4 (by omega) (Or.inr h)
    simp only [↓reduceIte, if_pos a1, f2, d_byte hD' hb, Option.bind_some, if_neg n10, if_neg n32, ao_let, e81, d_byte hD1 hb, e8, hD2.2.2.2.2.1, if_pos (show nI b < nI len by rw [n_lt (by omega) (by omega)]; exact hb), ite_self]
    generalize ao_u (ao_u D' 537 11 (nI b)) 537 9 (-1) = D2 at *
    by_cases hl : ltrP (s b)
    · refine hv_up (fun _ => fX12_token.eq_2 ..) ?_
      simp only [Nat.reduceEqDiff, ↓reduceIte]
      refine hv_bind (d_ltr hby) ?_
      rintro _ rfl
      dsimp only
      simp only [if_pos hl, if_neg (show ¬ (1 : Int32) = 0 by decide)]
      exact hv_mono (tw_ok hD2 hb e8 e9 e11 hl) (fun y hy => TkP_tr hy hf)
    · by_cases hd : dgtP (s b)
      · refine hv_up (fun _ => fX12_token.eq_2 ..) ?_
        simp only [Nat.reduceEqDiff, ↓reduceIte]
        refine hv_bind (d_ltr hby) ?_
        rintro _ rfl
        dsimp only
        simp only [if_neg hl, ↓reduceIte, d_dgt hby, Option.bind_some, if_pos hd, if_neg (show ¬ (1 : Int32) = 0 by decide)]
        exact hv_mono (tn_ok hD2 hb e8 e9 e11 hl hd) (fun y hy => TkP_tr hy hf)
      · exact hv_mono (ts_ok hD2 hb e8 e9 e11 hl hd) (fun y hy => TkP_tr hy hf)
  · have q : len ≤ b := by omega
    simp only [↓reduceIte, if_pos a1, f2, d_byteN hD' q (by omega), Option.bind_some, if_neg (show ¬ (-1 : Int32) = 10 by decide), if_neg (show ¬ (-1 : Int32) = 32 by decide), ao_let, e81, d_byteN hD1 q (by omega), e8, hD2.2.2.2.2.1, if_neg (show ¬ (0 : Int32) ≤ -1 by decide), if_neg (show ¬ nI b < nI len by rw [n_lt (by omega) (by omega)]; exact hb)]
    generalize ao_u (ao_u D' 537 11 (nI b)) 537 9 (-1) = D2 at *
    have eK : tkK s len b = 0 := by rw [tkK, if_pos q]
    refine hv_some (TkP_tr ⟨DT_fr hD2 (u_n2 (by omega)) (fun i => u_n1 (by omega)), fun x j hx => u_ne (by omega), ?_, ?_, fun h => ?_, ?_⟩ hf)
    · rw [u_n2 (by omega), e8, tkE, if_pos q]
    · rw [u_eq, eK]; rfl
    · rw [eK] at h; omega
    · rw [u_n2 (by omega), e11]
