set_option linter.unusedSimpArgs false
set_option linter.unusedVariables false
/-! ===== may a block end? ===== -/
def MayE (C D : ao_M) (rc nw bw br t len kd a1 a2 a3 : Nat) (φ : Nat → Nat) (N : Ns) (H K : Nat → Nat) (l : List (Nat × Nat)) (y w : Int32 × ao_S) : Prop :=
  (w.1 = 0 ∧ y.1 = 0 ∧ ∃ kp', Full y.2.1 y.2.2 w.2.1 w.2.2 kp' rc nw bw br) ∨ (w.1 = 1 ∧ y.1 = 1 ∧ ∃ kp', FullP (fun u => u ≠ t) y.2.1 y.2.2 w.2.1 w.2.2 kp' rc nw bw br ∧ Md y.2.1 y.2.2 w.2.1 rc t len kd a1 a2 a3 φ N H K l ∧ Sty t C D y.2.1 w.2.1)
theorem Sty_tr {t : Nat} {C D C' D' C'' D'' : ao_M} (h : Sty t C D C' D') (g : Sty t C' D' C'' D'') : Sty t C D C'' D'' :=
  ⟨fun a i h1 h2 => (g.1 a i h1 h2).trans (h.1 a i h1 h2), fun a i h1 h2 h3 h4 => (g.2.1 a i h1 h2 h3 h4).trans (h.2.1 a i h1 h2 h3 h4), g.2.2.trans h.2.2⟩
theorem Sty_rf {t : Nat} {C D : ao_M} : Sty t C D C D := ⟨fun _ _ _ _ => rfl, fun _ _ _ _ _ _ => rfl, rfl⟩
/-- the reference looks for the next read, in the order of reads -/
theorem d_mbest {σ : ao_H} (hs : ShD σ) {t : Nat} (ht : t < 6) {D : ao_M} {rs : List Nat} {o : Nat → Nat} {la : Int32} (hf : ∀ p, p < 26 → D 577 (t * 12 * 26 + p) = if p ∈ rs then 1 else 0) (ho : ∀ p ∈ rs, p < 26 ∧ D 581 (t * 12 * 26 + p) = nI (o p) ∧ o p < 2147483648) (S : Nat → Prop) (hS : ∀ p, S p ↔ p ∈ rs ∧ (la < 0 ∨ ¬ nI (o p) ≤ la)) {Q : Int32 × ao_S → Prop}
    (q0 : (∀ p, ¬ S p) → hv (fun n => fX12_mayEnd n 25 537 (nI t) la (-1) 26 0 0 D σ) Q) (q1 : ∀ b, S b → (∀ q, S q → o b ≤ o q) → hv (fun n => fX12_mayEnd n 25 537 (nI t) la (nI b) 26 0 0 D σ) Q) : ∀ (m p : Nat) (x : Int32), p + m = 26 → (x = -1 ∧ (∀ q, q < p → ¬ S q) ∨ ∃ b, b < p ∧ S b ∧ x = nI b ∧ ∀ q, q < p → S q → o b ≤ o q) → hv (fun n => fX12_mayEnd n 25 537 (nI t) la x (nI p) 0 0 D σ) Q := by
  have hS26 : ∀ p, S p → p < 26 := fun p hp => (ho p ((hS p).mp hp).1).1
  intro m
  induction m with
  | zero =>
    intro p x h hx
    obtain rfl : p = 26 := by omega
    rcases hx with ⟨rfl, hx⟩ | ⟨b, h1, h2, rfl, h3⟩
    · exact q0 (fun q hq => hx q (hS26 q hq) hq)
    · exact q1 b h2 (fun q hq => h3 q (hS26 q hq) hq)
  | succ m ih =>
    intro p x h hx
    have hp : p < 26 := by omega
    have hfp := hf p hp
    have nxt : ∀ x' v, (x' = -1 ∧ (∀ q, q < p + 1 → ¬ S q) ∨ ∃ b, b < p + 1 ∧ S b ∧ x' = nI b ∧ ∀ q, q < p + 1 → S q → o b ≤ o q) → hv (fun n => fX12_mayEnd n 96 537 (nI t) la x' (nI p) v 0 D σ) Q := by
      intro x' v hx'
      refine hv_up (fun _ => fX12_mayEnd.eq_2 ..) ?_
      simp only [↓reduceIte, Nat.reduceEqDiff, ao_let, n_addl]
      exact ih (p + 1) x' (by omega) hx'
    have keep : ¬ S p → (x = -1 ∧ (∀ q, q < p + 1 → ¬ S q) ∨ ∃ b, b < p + 1 ∧ S b ∧ x = nI b ∧ ∀ q, q < p + 1 → S q → o b ≤ o q) := by
      intro hn
      rcases hx with ⟨e, hx⟩ | ⟨b, h1, h2, e, h3⟩
      · refine Or.inl ⟨e, fun q hq => ?_⟩
        by_cases eq : q = p
        · subst eq; exact hn
        · exact hx q (by omega)
      · refine Or.inr ⟨b, by omega, h2, e, fun q hq hSq => ?_⟩
        by_cases eq : q = p
        · subst eq; exact absurd hSq hn
        · exact h3 q (by omega) hSq
    by_cases hm : p ∈ rs
    · rw [if_pos hm] at hfp
      obtain ⟨-, o2, o3⟩ := ho p hm
      have go67 : S p → hv (fun n => fX12_mayEnd n 67 537 (nI t) la x (nI p) (nI (t * 12 * 26 + p)) 0 D σ) Q := by
        intro hSp
        rcases hx with ⟨rfl, hx⟩ | ⟨b, h1, h2, rfl, h3⟩
        · have hn := nxt (nI p) (nI (t * 12 * 26 + p)) (Or.inr ⟨p, by omega, hSp, rfl, fun q hq hSq => by
            by_cases eq : q = p
            · subst eq; exact Nat.le_refl _
            · exact absurd hSq (hx q (by omega))⟩)
          refine hv_up (fun _ => fX12_mayEnd.eq_2 ..) ?_
          simp only [↓reduceIte, Nat.reduceEqDiff, n_g1]
          refine hv_up (fun _ => fX12_mayEnd.eq_2 ..) ?_
          simp only [↓reduceIte, Nat.reduceEqDiff]
          exact hn
        · obtain ⟨b1, b2, b3⟩ := ho b ((hS b).mp h2).1
          by_cases hle : o b ≤ o p
          · have hn := nxt (nI b) (nI (t * 12 * 26 + p)) (Or.inr ⟨b, by omega, h2, rfl, fun q hq hSq => by
              by_cases eq : q = p
              · subst eq; exact hle
              · exact h3 q (by omega) hSq⟩)
            clear nxt keep ih q0 q1 h3 hS hS26
            refine hv_up (fun _ => fX12_mayEnd.eq_2 ..) ?_
            try simp only [↓reduceIte, Nat.reduceEqDiff, Option.bind_some, ao_let, n_ell, hs, gX12_cell, o2, b2, Nat.add_zero]
            try simp (disch := first | omega | assumption) only [↓reduceIte, Nat.reduceEqDiff, Option.bind_some, ao_let, t_le, f_le, t_lt, f_lt, f_eq, u_eq, u_n1, u_n2, n_cl, n_lt, n_le, n_eq, n_ltl, n_llt, n_lel, n_lle, n_eql, n_leq, n_add, n_mul, n_sub, n_addl, n_ladd, n_mull, n_lmul, n_subl, Int32.reduceLT, Int32.reduceLE, Int32.reduceAdd, Int32.reduceSub, Int32.reduceMul, Int32.reduceToNatClampNeg, not_false_eq_true, not_true_eq_false, or_false, false_or, or_self, and_self, false_and, true_and, and_false, and_true, true_or, or_true, Nat.reduceAdd, Nat.reduceMul, Nat.reduceLT, Nat.reduceLeDiff, ne_eq, n_ell, hs, gX12_cell, o2, b2, Nat.add_zero]
            exact hn
          · have hn := nxt (nI p) (nI (t * 12 * 26 + p)) (Or.inr ⟨p, by omega, hSp, rfl, fun q hq hSq => by
              by_cases eq : q = p
              · subst eq; exact Nat.le_refl _
              · have := h3 q (by omega) hSq
                omega⟩)
            have hle' : o p < o b := by omega
            clear nxt keep ih q0 q1 h3 hS hS26 hle
            refine hv_up (fun _ => fX12_mayEnd.eq_2 ..) ?_
            try simp only [↓reduceIte, Nat.reduceEqDiff, Option.bind_some, ao_let, n_ell, hs, gX12_cell, o2, b2, Nat.add_zero]
            try simp (disch := first | omega | assumption) only [↓reduceIte, Nat.reduceEqDiff, Option.bind_some, ao_let, t_le, f_le, t_lt, f_lt, f_eq, u_eq, u_n1, u_n2, n_cl, n_lt, n_le, n_eq, n_ltl, n_llt, n_lel, n_lle, n_eql, n_leq, n_add, n_mul, n_sub, n_addl, n_ladd, n_mull, n_lmul, n_subl, Int32.reduceLT, Int32.reduceLE, Int32.reduceAdd, Int32.reduceSub, Int32.reduceMul, Int32.reduceToNatClampNeg, not_false_eq_true, not_true_eq_false, or_false, false_or, or_self, and_self, false_and, true_and, and_false, and_true, true_or, or_true, Nat.reduceAdd, Nat.reduceMul, Nat.reduceLT, Nat.reduceLeDiff, ne_eq, n_ell, hs, gX12_cell, o2, b2, Nat.add_zero]
            refine hv_up (fun _ => fX12_mayEnd.eq_2 ..) ?_
            simp only [↓reduceIte, Nat.reduceEqDiff]
            exact hn
      by_cases hl : la < 0
      · have hg := go67 ((hS p).mpr ⟨hm, Or.inl hl⟩)
        clear nxt keep ih q0 q1 hS hS26 hx go67
        refine hv_up (fun _ => fX12_mayEnd.eq_2 ..) ?_
        try simp only [↓reduceIte, Nat.reduceEqDiff, Option.bind_some, ao_let, n_ell, hs, gX12_cell, hfp, Nat.add_zero, hl, show ((1 : Int32) = 0) = False from by decide]
        try simp (disch := first | omega | assumption) only [↓reduceIte, Nat.reduceEqDiff, Option.bind_some, ao_let, t_le, f_le, t_lt, f_lt, f_eq, u_eq, u_n1, u_n2, n_cl, n_lt, n_le, n_eq, n_ltl, n_llt, n_lel, n_lle, n_eql, n_leq, n_add, n_mul, n_sub, n_addl, n_ladd, n_mull, n_lmul, n_subl, Int32.reduceLT, Int32.reduceLE, Int32.reduceAdd, Int32.reduceSub, Int32.reduceMul, Int32.reduceToNatClampNeg, not_false_eq_true, not_true_eq_false, or_false, false_or, or_self, and_self, false_and, true_and, and_false, and_true, true_or, or_true, Nat.reduceAdd, Nat.reduceMul, Nat.reduceLT, Nat.reduceLeDiff, ne_eq, n_ell, hs, gX12_cell, hfp, Nat.add_zero, hl, show ((1 : Int32) = 0) = False from by decide]
        exact hg
      · by_cases hle : nI (o p) ≤ la
        · have hg := nxt x (nI (t * 12 * 26 + p)) (keep (fun z => ((hS p).mp z).2.elim hl (fun y => y hle)))
          clear nxt keep ih q0 q1 hS hS26 hx go67
          refine hv_up (fun _ => fX12_mayEnd.eq_2 ..) ?_
          try simp only [↓reduceIte, Nat.reduceEqDiff, Option.bind_some, ao_let, n_ell, hs, gX12_cell, hfp, Nat.add_zero, hl, o2, hle, show ((1 : Int32) = 0) = False from by decide]
          try simp (disch := first | omega | assumption) only [↓reduceIte, Nat.reduceEqDiff, Option.bind_some, ao_let, t_le, f_le, t_lt, f_lt, f_eq, u_eq, u_n1, u_n2, n_cl, n_lt, n_le, n_eq, n_ltl, n_llt, n_lel, n_lle, n_eql, n_leq, n_add, n_mul, n_sub, n_addl, n_ladd, n_mull, n_lmul, n_subl, Int32.reduceLT, Int32.reduceLE, Int32.reduceAdd, Int32.reduceSub, Int32.reduceMul, Int32.reduceToNatClampNeg, not_false_eq_true, not_true_eq_false, or_false, false_or, or_self, and_self, false_and, true_and, and_false, and_true, true_or, or_true, Nat.reduceAdd, Nat.reduceMul, Nat.reduceLT, Nat.reduceLeDiff, ne_eq, n_ell, hs, gX12_cell, hfp, Nat.add_zero, hl, o2, hle, show ((1 : Int32) = 0) = False from by decide]
          exact hg
        · have hg := go67 ((hS p).mpr ⟨hm, Or.inr hle⟩)
          clear nxt keep ih q0 q1 hS hS26 hx go67
          refine hv_up (fun _ => fX12_mayEnd.eq_2 ..) ?_
          try simp only [↓reduceIte, Nat.reduceEqDiff, Option.bind_some, ao_let, n_ell, hs, gX12_cell, hfp, Nat.add_zero, hl, o2, hle, show ((1 : Int32) = 0) = False from by decide]
          try simp (disch := first | omega | assumption) only [↓reduceIte, Nat.reduceEqDiff, Option.bind_some, ao_let, t_le, f_le, t_lt, f_lt, f_eq, u_eq, u_n1, u_n2, n_cl, n_lt, n_le, n_eq, n_ltl, n_llt, n_lel, n_lle, n_eql, n_leq, n_add, n_mul, n_sub, n_addl, n_ladd, n_mull, n_lmul, n_subl, Int32.reduceLT, Int32.reduceLE, Int32.reduceAdd, Int32.reduceSub, Int32.reduceMul, Int32.reduceToNatClampNeg, not_false_eq_true, not_true_eq_false, or_false, false_or, or_self, and_self, false_and, true_and, and_false, and_true, true_or, or_true, Nat.reduceAdd, Nat.reduceMul, Nat.reduceLT, Nat.reduceLeDiff, ne_eq, n_ell, hs, gX12_cell, hfp, Nat.add_zero, hl, o2, hle, show ((1 : Int32) = 0) = False from by decide]
          exact hg
    · rw [if_neg hm] at hfp
      have hg := nxt x (nI (t * 12 * 26 + p)) (keep (fun z => hm ((hS p).mp z).1))
      clear nxt keep ih q0 q1 hS hS26 hx
      refine hv_up (fun _ => fX12_mayEnd.eq_2 ..) ?_
      try simp only [↓reduceIte, Nat.reduceEqDiff, Option.bind_some, ao_let, n_ell, hs, gX12_cell, hfp, Nat.add_zero]
      try simp (disch := first | omega | assumption) only [↓reduceIte, Nat.reduceEqDiff, Option.bind_some, ao_let, t_le, f_le, t_lt, f_lt, f_eq, u_eq, u_n1, u_n2, n_cl, n_lt, n_le, n_eq, n_ltl, n_llt, n_lel, n_lle, n_eql, n_leq, n_add, n_mul, n_sub, n_addl, n_ladd, n_mull, n_lmul, n_subl, Int32.reduceLT, Int32.reduceLE, Int32.reduceAdd, Int32.reduceSub, Int32.reduceMul, Int32.reduceToNatClampNeg, not_false_eq_true, not_true_eq_false, or_false, false_or, or_self, and_self, false_and, true_and, and_false, and_true, true_or, or_true, Nat.reduceAdd, Nat.reduceMul, Nat.reduceLT, Nat.reduceLeDiff, ne_eq, n_ell, hs, gX12_cell, hfp, Nat.add_zero]
      exact hg
section Me
variable {rc nw bw br t len kd a1 a2 a3 : Nat} {φ : Nat → Nat} {N : Ns} {H K : Nat → Nat} {l : List (Nat × Nat)}
theorem pw_get {o : Nat → Nat} {r : List Nat} (h : r.Pairwise (fun x y => o x < o y)) {i j : Nat} (hi : i < r.length) (hj : j < r.length) (hij : i < j) : o r[i] < o r[j] := List.pairwise_iff_getElem.mp h i j hi hj hij
theorem oth_in {D D' : ao_M} {t : Nat} (h : inD t D D') {a p : Nat} (ha : a = 577 ∨ a = 579 ∨ a = 580 ∨ a = 581) (hp : p < 26) : D' a (t * 12 * 26 + p) = D a (t * 12 * 26 + p) := by
  have := inD_26 h (a := a) (j := 0) (by omega) (by omega) hp
  rw [Nat.add_zero] at this
  exact this
/-- the last question, on both sides -/
theorem me_go {C D : ao_M} {ρ σ : ao_H} {kp : Nat} (hF : FullP (fun u => u ≠ t) C ρ D σ kp rc nw bw br) (ht : t < 6) (hM : Md C ρ D rc t len kd a1 a2 a3 φ N H K l) (hn : ¬ (D 537 27 = 1 ∧ D 537 26 = D 560 t)) (r2 : Nat) (x3 : Int32) :
    hv (fun n => fX2_mayEnd n 101 12 (92 + 71 * t) r2 x3 0 C ρ) (fun y => hv (fun n => gX12_goesOn n 537 (nI t) D σ) (fun w => (w.1 = 0 ∧ y.1 = 0 ∧ ∃ kp', Full y.2.1 y.2.2 w.2.1 w.2.2 kp' rc nw bw br) ∨ (w = (1, D, σ) ∧ y = (1, C, ρ)))) := by
  have f1 := hF.1.1
  refine hv_up (fun _ => fX2_mayEnd.eq_2 ..) ?_
  simp only [↓reduceIte, Nat.reduceEqDiff, f1]
  refine hv_bind (P := fun y => y.2 = C ∧ FW D t 0 (nl l) y.1) (ow_P hF ht hM hn (fun x hx => ⟨rfl, hx⟩)) ?_
  rintro ⟨x, C'⟩ ⟨e, hx⟩
  obtain rfl : C = C' := e.symm
  simp only [ao_let]
  refine hv_bind (goes_P hF ht hM hx) ?_
  rintro ⟨y1, y2⟩ ⟨Ng, wg, eg, hg⟩
  rcases hg with ⟨g1, g2, g3⟩ | ⟨g1, g2, g3, kp', g4⟩
  · subst g1
    obtain ⟨rfl, rfl⟩ := Prod.mk.inj g2
    refine hv_up (fun _ => fX2_mayEnd.eq_2 ..) ?_
    simp only [↓reduceIte, Nat.reduceEqDiff, n_g2]
    exact hv_some ⟨Ng, _, eg, Or.inr ⟨g3, rfl⟩⟩
  · refine hv_up (fun _ => fX2_mayEnd.eq_2 ..) ?_
    simp only [↓reduceIte, Nat.reduceEqDiff, g2]
    exact hv_some ⟨Ng, _, eg, Or.inl ⟨g3, rfl, kp', g4⟩⟩
theorem me_loop {C0 D0 : ao_M} {ps : List Nat} {vs ws : Nat → Int32} {o : Nat → Nat} (ht : t < 6) (hnl : nl l = 1) (hrc : rc < 2147483648) (ho3 : ps.Pairwise (fun x y => o x < o y)) : ∀ (m i : Nat) (C D : ao_M) (ρ σ : ao_H) (kp : Nat), i + m = ps.length → FullP (fun u => u ≠ t) C ρ D σ kp rc nw bw br → Md C ρ D rc t len kd a1 a2 a3 φ N H K l → Sty t C0 D0 C D → D 537 27 = 3 → RdC C (92 + 71 * t + 8) ps vs ws → (∀ p, p < 26 → D 577 (t * 12 * 26 + p) = if p ∈ ps then 1 else 0) → (∀ p ∈ ps, p < 26 ∧ D 581 (t * 12 * 26 + p) = nI (o p) ∧ o p < rc) → ∀ la : Int32, (i = 0 ∧ la = -1 ∨ ∃ h : i - 1 < ps.length, 1 ≤ i ∧ la = nI (o ps[i - 1])) →
    hv (fun n => fX2_mayEnd n 25 12 (92 + 71 * t) (92 + 71 * t + 8) (nI i) 0 C ρ) (fun y => hv (fun n => fX12_mayEnd n 20 537 (nI t) la 0 0 0 0 D σ) (fun w => MayE C0 D0 rc nw bw br t len kd a1 a2 a3 φ N H K l y w)) := by
  intro m
  induction m with
  | zero =>
    intro i C D ρ σ kp hi hF hM hSt hw hrd hd1 hd2 la hla
    have f1 := hF.1.1
    have f4 := hF.1.2.2.2
    have hl := LvS_of hF.1.2.1 ht (show 0 < 10 by omega)
    have hlen := RdC_len hrd
    obtain rfl : i = ps.length := by omega
    have hwC : C 12 5 = 3 := by rw [hF.2.2.1.1]; exact hw
    have r3 := hrd.1
    refine hv_up (fun _ => fX2_mayEnd.eq_2 ..) ?_
    try simp only [↓reduceIte, Nat.reduceEqDiff, Option.bind_some, ao_let, n_ell, f1, hwC, hl, r3, Nat.add_zero]
    try simp (disch := first | omega | assumption) only [↓reduceIte, Nat.reduceEqDiff, Option.bind_some, ao_let, t_le, f_le, t_lt, f_lt, f_eq, u_eq, u_n1, u_n2, n_cl, n_lt, n_le, n_eq, n_ltl, n_llt, n_lel, n_lle, n_eql, n_leq, n_add, n_mul, n_sub, n_addl, n_ladd, n_mull, n_lmul, n_subl, Int32.reduceLT, Int32.reduceLE, Int32.reduceAdd, Int32.reduceSub, Int32.reduceMul, Int32.reduceToNatClampNeg, not_false_eq_true, not_true_eq_false, or_false, false_or, or_self, and_self, false_and, true_and, and_false, and_true, true_or, or_true, Nat.reduceAdd, Nat.reduceMul, Nat.reduceLT, Nat.reduceLeDiff, ne_eq, n_ell, f1, hwC, hl, r3, Nat.add_zero]
    refine hv_mono (me_go hF ht hM (fun x => absurd (hw.symm.trans x.1) (by decide)) _ _) (fun y hy => ?_)
    have none : ∀ p, ¬ (p ∈ ps ∧ (la < 0 ∨ ¬ nI (o p) ≤ la)) := by
      rintro p ⟨hp, hq⟩
      obtain ⟨k, hk, rfl⟩ := List.mem_iff_getElem.mp hp
      rcases hla with ⟨e, -⟩ | ⟨h, h1, rfl⟩
      · omega
      · obtain ⟨b1, b2, b3⟩ := hd2 _ (List.getElem_mem h)
        obtain ⟨e1, e2, e3⟩ := hd2 _ (List.getElem_mem hk)
        rcases hq with hq | hq
        · simp (disch := omega) only [n_ltl, f_lt] at hq
        · refine hq ?_
          simp (disch := omega) only [n_le]
          by_cases e : k = ps.length - 1
          · subst e; exact Nat.le_refl _
          · exact Nat.le_of_lt (pw_get ho3 hk h (by omega))
    refine hv_up (fun _ => fX12_mayEnd.eq_2 ..) ?_
    simp only [↓reduceIte, Nat.reduceEqDiff]
    refine d_mbest f4 ht hd1 (fun p hp => ?_) (fun p => p ∈ ps ∧ (la < 0 ∨ ¬ nI (o p) ≤ la)) (fun p => Iff.rfl) (fun _ => ?_) (fun b hb _ => absurd hb (none b)) 26 0 (-1) rfl (Or.inl ⟨rfl, fun q hq => absurd hq (by omega)⟩)
    · obtain ⟨b1, b2, b3⟩ := hd2 p hp
      exact ⟨b1, b2, by omega⟩
    · refine hv_up (fun _ => fX12_mayEnd.eq_2 ..) ?_
      try simp only [↓reduceIte, Nat.reduceEqDiff, Option.bind_some, ao_let, n_ell, f4, n_g2]
      try simp (disch := first | omega | assumption) only [↓reduceIte, Nat.reduceEqDiff, Option.bind_some, ao_let, t_le, f_le, t_lt, f_lt, f_eq, u_eq, u_n1, u_n2, n_cl, n_lt, n_le, n_eq, n_ltl, n_llt, n_lel, n_lle, n_eql, n_leq, n_add, n_mul, n_sub, n_addl, n_ladd, n_mull, n_lmul, n_subl, Int32.reduceLT, Int32.reduceLE, Int32.reduceAdd, Int32.reduceSub, Int32.reduceMul, Int32.reduceToNatClampNeg, not_false_eq_true, not_true_eq_false, or_false, false_or, or_self, and_self, false_and, true_and, and_false, and_true, true_or, or_true, Nat.reduceAdd, Nat.reduceMul, Nat.reduceLT, Nat.reduceLeDiff, ne_eq, n_ell, f4, n_g2]
      refine hv_bind hy ?_
      rintro ⟨b, D2, σ2⟩ hb
      have : b = 0 ∨ b = 1 := by
        rcases hb with ⟨e, -⟩ | ⟨e, -⟩
        · exact Or.inl e
        · exact Or.inr (Prod.mk.inj e).1
      refine hv_up (fun _ => fX12_mayEnd.eq_2 ..) ?_
      simp only [↓reduceIte, Nat.reduceEqDiff, this]
      refine hv_some ?_
      rcases hb with ⟨e1, e2, e3⟩ | ⟨e1, e2⟩
      · exact Or.inl ⟨e1, e2, e3⟩
      · rw [e1, e2]
        exact Or.inr ⟨rfl, rfl, kp, hF, hM, hSt⟩
  | succ m ih =>
    intro i C D ρ σ kp hi hF hM hSt hw hrd hd1 hd2 la hla
    have f1 := hF.1.1
    have f2 := hF.1.2.1
    have f4 := hF.1.2.2.2
    have hl := LvS_of hF.1.2.1 ht (show 0 < 10 by omega)
    have hlen := RdC_len hrd
    have hii : i < ps.length := by omega
    have hwC : C 12 5 = 3 := by rw [hF.2.2.1.1]; exact hw
    have r3 := hrd.1
    obtain ⟨rp, -, -⟩ := hrd.2.1 i hii
    obtain ⟨hp26, hop, hor⟩ := hd2 _ (List.getElem_mem hii)
    obtain ⟨v, ev, hv3⟩ := lose_P (p := ps[i]) hF ht hp26 hM hw
    -- the reference finds the same place
    have dfind : ∀ {Q : Int32 × ao_S → Prop}, hv (fun n => fX12_mayEnd n 25 537 (nI t) la (nI ps[i]) 26 0 0 D σ) Q → hv (fun n => fX12_mayEnd n 20 537 (nI t) la 0 0 0 0 D σ) Q := by
      intro Q hQ
      have hSi : ps[i] ∈ ps ∧ (la < 0 ∨ ¬ nI (o ps[i]) ≤ la) := by
        refine ⟨List.getElem_mem hii, ?_⟩
        rcases hla with ⟨-, rfl⟩ | ⟨h, h1, rfl⟩
        · exact Or.inl (by decide)
        · obtain ⟨b1, b2, b3⟩ := hd2 _ (List.getElem_mem h)
          have := pw_get ho3 h hii (by omega)
          refine Or.inr ?_
          simp (disch := omega) only [n_le]
          omega
      have hmin : ∀ q, (q ∈ ps ∧ (la < 0 ∨ ¬ nI (o q) ≤ la)) → o ps[i] ≤ o q := by
        rintro q ⟨hq, hq2⟩
        obtain ⟨k, hk, rfl⟩ := List.mem_iff_getElem.mp hq
        by_cases e : k < i
        · rcases hla with ⟨e0, -⟩ | ⟨h, h1, rfl⟩
          · omega
          · obtain ⟨b1, b2, b3⟩ := hd2 _ (List.getElem_mem h)
            obtain ⟨e1, e2, e3⟩ := hd2 _ (List.getElem_mem hk)
            exfalso
            rcases hq2 with hq2 | hq2
            · simp (disch := omega) only [n_ltl, f_lt] at hq2
            · refine hq2 ?_
              simp (disch := omega) only [n_le]
              by_cases ek : k = i - 1
              · subst ek; exact Nat.le_refl _
              · exact Nat.le_of_lt (pw_get ho3 hk h (by omega))
        · by_cases ek : k = i
          · subst ek; exact Nat.le_refl _
          · exact Nat.le_of_lt (pw_get ho3 hii hk (by omega))
      refine hv_up (fun _ => fX12_mayEnd.eq_2 ..) ?_
      simp only [↓reduceIte, Nat.reduceEqDiff]
      refine d_mbest f4 ht hd1 (fun p hp => ?_) (fun p => p ∈ ps ∧ (la < 0 ∨ ¬ nI (o p) ≤ la)) (fun p => Iff.rfl) (fun hn => absurd hSi (hn _)) (fun b hb hb2 => ?_) 26 0 (-1) rfl (Or.inl ⟨rfl, fun q hq => absurd hq (by omega)⟩)
      · obtain ⟨b1, b2, b3⟩ := hd2 p hp
        exact ⟨b1, b2, by omega⟩
      · have e1 := hb2 _ hSi
        have e2 := hmin _ hb
        have : b = ps[i] := by
          obtain ⟨k, hk, rfl⟩ := List.mem_iff_getElem.mp hb.1
          rcases (show k < i ∨ k = i ∨ i < k by omega) with e | e | e
          · have := pw_get ho3 hk hii e; omega
          · subst e; rfl
          · have := pw_get ho3 hii hk e; omega
        rw [this]
        exact hQ
    have dwin : ∀ {Q : Int32 × ao_S → Prop}, hv (fun n => gX12_wins n 537 (nI t) (nI ps[i]) D σ) (fun w => hv (fun n => fX12_mayEnd n 128 537 (nI t) (nI (o ps[i])) (nI ps[i]) 26 0 w.1 w.2.1 w.2.2) Q) → hv (fun n => fX12_mayEnd n 20 537 (nI t) la 0 0 0 0 D σ) Q := by
      intro Q hQ
      refine dfind ?_
      clear dfind ih hv3
      refine hv_up (fun _ => fX12_mayEnd.eq_2 ..) ?_
      try simp only [↓reduceIte, Nat.reduceEqDiff, Option.bind_some, ao_let, n_ell, f4, gX12_cell, Nat.add_zero, hop]
      try simp (disch := first | omega | assumption) only [↓reduceIte, Nat.reduceEqDiff, Option.bind_some, ao_let, t_le, f_le, t_lt, f_lt, f_eq, u_eq, u_n1, u_n2, n_cl, n_lt, n_le, n_eq, n_ltl, n_llt, n_lel, n_lle, n_eql, n_leq, n_add, n_mul, n_sub, n_addl, n_ladd, n_mull, n_lmul, n_subl, Int32.reduceLT, Int32.reduceLE, Int32.reduceAdd, Int32.reduceSub, Int32.reduceMul, Int32.reduceToNatClampNeg, not_false_eq_true, not_true_eq_false, or_false, false_or, or_self, and_self, false_and, true_and, and_false, and_true, true_or, or_true, Nat.reduceAdd, Nat.reduceMul, Nat.reduceLT, Nat.reduceLeDiff, ne_eq, n_ell, f4, gX12_cell, Nat.add_zero, hop]
      exact hv_bind hQ (fun y hy => hy)
    have d128 : ∀ {b : Int32} {D2 : ao_M} {σ2 : ao_H} {Q : Int32 × ao_S → Prop}, (b = 0 ∧ Q (0, D2, σ2) ∨ b = 1 ∧ hv (fun n => fX12_mayEnd n 20 537 (nI t) (nI (o ps[i])) 0 0 0 0 D2 σ2) Q) → hv (fun n => fX12_mayEnd n 128 537 (nI t) (nI (o ps[i])) (nI ps[i]) 26 0 b D2 σ2) Q := by
      rintro b D2 σ2 Q (⟨rfl, h⟩ | ⟨rfl, h⟩)
      · refine hv_up (fun _ => fX12_mayEnd.eq_2 ..) ?_
        simp only [↓reduceIte, Nat.reduceEqDiff]
        exact hv_some h
      · refine hv_up (fun _ => fX12_mayEnd.eq_2 ..) ?_
        simp only [↓reduceIte, Nat.reduceEqDiff, show ((1 : Int32) = 0) = False from by decide]
        exact h
    -- the class at 84
    have c84 : ∀ {C2 : ao_M} {ρ2 : ao_H} {Q : Int32 × ao_S → Prop}, ShB ρ2 → C2 (92 + 71 * t) 0 = nI t → (v = nI t → Q (0, C2, ρ2)) → (v ≠ nI t → hv (fun n => fX2_mayEnd n 25 12 (92 + 71 * t) (92 + 71 * t + 8) (nI (i + 1)) 0 C2 ρ2) Q) → hv (fun n => fX2_mayEnd n 84 12 (92 + 71 * t) (92 + 71 * t + 8) (nI i) v C2 ρ2) Q := by
      intro C2 ρ2 Q h2 h0 q1 q2
      have hR2 := RnS_of h2 ht
      refine hv_up (fun _ => fX2_mayEnd.eq_2 ..) ?_
      by_cases e : v = nI t
      · simp only [↓reduceIte, Nat.reduceEqDiff, hR2, h0, e]
        exact hv_some (q1 e)
      · simp only [↓reduceIte, Nat.reduceEqDiff, hR2, h0, e, ao_let, n_addl]
        exact q2 e
    have hla' : i + 1 = 0 ∧ nI (o ps[i]) = -1 ∨ ∃ h : i + 1 - 1 < ps.length, 1 ≤ i + 1 ∧ nI (o ps[i]) = nI (o ps[i + 1 - 1]) := Or.inr ⟨hii, by omega, rfl⟩
    refine hv_up (fun _ => fX2_mayEnd.eq_2 ..) ?_
    try simp only [↓reduceIte, Nat.reduceEqDiff, Option.bind_some, ao_let, n_ell, f1, hwC, hl, r3, Nat.add_zero, rp, ev]
    try simp (disch := first | omega | assumption) only [↓reduceIte, Nat.reduceEqDiff, Option.bind_some, ao_let, t_le, f_le, t_lt, f_lt, f_eq, u_eq, u_n1, u_n2, n_cl, n_lt, n_le, n_eq, n_ltl, n_llt, n_lel, n_lle, n_eql, n_leq, n_add, n_mul, n_sub, n_addl, n_ladd, n_mull, n_lmul, n_subl, Int32.reduceLT, Int32.reduceLE, Int32.reduceAdd, Int32.reduceSub, Int32.reduceMul, Int32.reduceToNatClampNeg, not_false_eq_true, not_true_eq_false, or_false, false_or, or_self, and_self, false_and, true_and, and_false, and_true, true_or, or_true, Nat.reduceAdd, Nat.reduceMul, Nat.reduceLT, Nat.reduceLeDiff, ne_eq, n_ell, f1, hwC, hl, r3, Nat.add_zero, rp, ev]
    rcases hv3 with ⟨rfl, hwin⟩ | ⟨ot, hot, hne, rfl, hrs⟩ | ⟨rfl, hrs⟩
    · simp only [n_g1, ↓reduceIte]
      refine c84 f2 hM.2.2.1.2.2.1 (fun e => ?_) (fun _ => ?_)
      · have := n_neg (n := t) (by omega)
        rw [← e] at this
        exact absurd rfl (by rw [this]; exact id)
      · refine hv_mono (ih (i + 1) C D ρ σ kp (by omega) hF hM hSt hw hrd hd1 hd2 _ hla') (fun y hy => dwin (hv_mono hwin ?_))
        rintro _ rfl
        exact d128 (Or.inr ⟨rfl, hy⟩)
    · have hso4 := rn_at f1 f2 hot
      simp (disch := omega) only [n_ltl, f_lt, n_lle, f_le, n_cl, ↓reduceIte, f1, Option.bind_some, or_self, not_false_eq_true, hso4]
      refine hv_bind hrs ?_
      rintro ⟨C1, ρ1⟩ ⟨Nw, ⟨b, D1, σ1⟩, ew, eb, kp', u1, u2, u3⟩
      dsimp only at eb u1 u2 u3
      subst eb
      have l1 : RdC C1 (92 + 71 * t + 8) ps vs ws := RdC_mv hrd (u3.1 _ _ (by omega) (by omega)) (u3.1 _ _ (by omega) (by omega)) (fun k => ⟨u3.1 _ _ (by omega) (by omega), u3.1 _ _ (by omega) (by omega), u3.1 _ _ (by omega) (by omega)⟩)
      refine c84 u1.1.2.1 u2.2.2.1.2.2.1 (fun e => ?_) (fun _ => ?_)
      · have := (n_eq (show ot < 2147483648 by omega) (show t < 2147483648 by omega)).mp e
        exact absurd this hne
      · refine hv_mono (ih (i + 1) C1 D1 ρ1 σ1 kp' (by omega) u1 u2 (Sty_tr hSt u3) (by rw [← u1.2.2.1.1, u3.2.2]; exact hwC) l1 (fun p hp => by rw [oth_in u3.2.1 (by omega) hp]; exact hd1 p hp) (fun p hp => by
          obtain ⟨z1, z2, z3⟩ := hd2 p hp
          exact ⟨z1, by rw [oth_in u3.2.1 (by omega) z1]; exact z2, z3⟩) _ hla') (fun y hy => dwin ⟨Nw, _, ew, d128 (Or.inr ⟨rfl, hy⟩)⟩)
    · have hso4 := rn_at f1 f2 ht
      simp (disch := omega) only [n_ltl, f_lt, n_lle, f_le, n_cl, ↓reduceIte, f1, Option.bind_some, or_self, not_false_eq_true, hso4]
      refine hv_bind hrs ?_
      rintro ⟨C1, ρ1⟩ ⟨Nw, ⟨b, D1, σ1⟩, ew, eb, kp', u1⟩
      dsimp only at eb u1
      subst eb
      have h01 : C1 (92 + 71 * t) 0 = nI t := by
        obtain ⟨-, -, -, -, -, -, -, hT, -⟩ := u1
        obtain ⟨s, c1, c2, c3, c4, -⟩ := hT t ht
        exact c4
      refine c84 u1.1.2.1 h01 (fun _ => dwin ⟨Nw, _, ew, d128 (Or.inl ⟨rfl, Or.inl ⟨rfl, rfl, kp', u1⟩⟩)⟩) (fun e => absurd rfl e)
theorem d_hasw {σ : ao_H} {D : ao_M} {t : Nat} (hs : ShD σ) (ht : t < 6) (hf : ∀ p, p < 26 → D 578 (t * 12 * 26 + p) = 0 ∨ D 578 (t * 12 * 26 + p) = 1) {Q : Int32 × ao_M → Prop} (q0 : (∀ p, p < 26 → D 578 (t * 12 * 26 + p) = 0) → Q (0, D)) (q1 : ¬ (∀ p, p < 26 → D 578 (t * 12 * 26 + p) = 0) → Q (1, D)) : hv (fun n => gX12_hasWrites n 537 (nI t) D σ) Q := by
  unfold gX12_hasWrites
  refine hv_up (fun _ => fX12_hasWrites.eq_2 ..) ?_
  simp only [↓reduceIte]
  have main : ∀ (m p : Nat), p + m = 26 → (∀ q, q < p → D 578 (t * 12 * 26 + q) = 0) → hv (fun n => fX12_hasWrites n 2 537 (nI t) (nI p) D σ) Q := by
    intro m
    induction m with
    | zero =>
      intro p h hn
      obtain rfl : p = 26 := by omega
      have := q0 hn
      clear q0 q1
      refine hv_up (fun _ => fX12_hasWrites.eq_2 ..) ?_
      try simp only [↓reduceIte, Nat.reduceEqDiff, Option.bind_some, ao_let, n_ell]
      try simp (disch := first | omega | assumption) only [↓reduceIte, Nat.reduceEqDiff, Option.bind_some, ao_let, t_le, f_le, t_lt, f_lt, f_eq, u_eq, u_n1, u_n2, n_cl, n_lt, n_le, n_eq, n_ltl, n_llt, n_lel, n_lle, n_eql, n_leq, n_add, n_mul, n_sub, n_addl, n_ladd, n_mull, n_lmul, n_subl, Int32.reduceLT, Int32.reduceLE, Int32.reduceAdd, Int32.reduceSub, Int32.reduceMul, Int32.reduceToNatClampNeg, not_false_eq_true, not_true_eq_false, or_false, false_or, or_self, and_self, false_and, true_and, and_false, and_true, true_or, or_true, Nat.reduceAdd, Nat.reduceMul, Nat.reduceLT, Nat.reduceLeDiff, ne_eq, n_ell]
      exact hv_some this
    | succ m ih =>
      intro p h hn
      rcases hf p (by omega) with e | e
      · have := ih (p + 1) (by omega) (fun q hq => by
          by_cases eq : q = p
          · subst eq; exact e
          · exact hn q (by omega))
        clear q0 q1 ih hf hn
        refine hv_up (fun _ => fX12_hasWrites.eq_2 ..) ?_
        try simp only [↓reduceIte, Nat.reduceEqDiff, Option.bind_some, ao_let, n_ell, hs, gX12_cell, e, Nat.add_zero]
        try simp (disch := first | omega | assumption) only [↓reduceIte, Nat.reduceEqDiff, Option.bind_some, ao_let, t_le, f_le, t_lt, f_lt, f_eq, u_eq, u_n1, u_n2, n_cl, n_lt, n_le, n_eq, n_ltl, n_llt, n_lel, n_lle, n_eql, n_leq, n_add, n_mul, n_sub, n_addl, n_ladd, n_mull, n_lmul, n_subl, Int32.reduceLT, Int32.reduceLE, Int32.reduceAdd, Int32.reduceSub, Int32.reduceMul, Int32.reduceToNatClampNeg, not_false_eq_true, not_true_eq_false, or_false, false_or, or_self, and_self, false_and, true_and, and_false, and_true, true_or, or_true, Nat.reduceAdd, Nat.reduceMul, Nat.reduceLT, Nat.reduceLeDiff, ne_eq, n_ell, hs, gX12_cell, e, Nat.add_zero]
        exact this
      · have := q1 (fun h0 => absurd ((h0 p (by omega)).symm.trans e) (by decide))
        clear q0 q1 ih hf hn
        refine hv_up (fun _ => fX12_hasWrites.eq_2 ..) ?_
        try simp only [↓reduceIte, Nat.reduceEqDiff, Option.bind_some, ao_let, n_ell, hs, gX12_cell, e, Nat.add_zero, show ((1 : Int32) = 0) = False from by decide]
        try simp (disch := first | omega | assumption) only [↓reduceIte, Nat.reduceEqDiff, Option.bind_some, ao_let, t_le, f_le, t_lt, f_lt, f_eq, u_eq, u_n1, u_n2, n_cl, n_lt, n_le, n_eq, n_ltl, n_llt, n_lel, n_lle, n_eql, n_leq, n_add, n_mul, n_sub, n_addl, n_ladd, n_mull, n_lmul, n_subl, Int32.reduceLT, Int32.reduceLE, Int32.reduceAdd, Int32.reduceSub, Int32.reduceMul, Int32.reduceToNatClampNeg, not_false_eq_true, not_true_eq_false, or_false, false_or, or_self, and_self, false_and, true_and, and_false, and_true, true_or, or_true, Nat.reduceAdd, Nat.reduceMul, Nat.reduceLT, Nat.reduceLeDiff, ne_eq, n_ell, hs, gX12_cell, e, Nat.add_zero, show ((1 : Int32) = 0) = False from by decide]
        exact hv_some this
  exact main 26 0 rfl (fun q hq => absurd hq (by omega))
theorem me_P {C D : ao_M} {ρ σ : ao_H} {kp : Nat} (hF : FullP (fun u => u ≠ t) C ρ D σ kp rc nw bw br) (ht : t < 6) (hM : Md C ρ D rc t len kd a1 a2 a3 φ N H K l) (hnl : nl l = 1) :
    hv (fun n => gX2_mayEnd n 12 (92 + 71 * t) C ρ) (fun y => hv (fun n => gX12_mayEnd n 537 (nI t) D σ) (fun w => MayE C D rc nw bw br t len kd a1 a2 a3 φ N H K l y w)) := by
  obtain ⟨⟨f1, f2, f3, f4⟩, f5, ⟨f6, ⟨w, w4, wD⟩, fX⟩, -, -, -, -, -, -, ⟨-, -, fe⟩, -, fbr⟩ := id hF
  have hR := RnS_of f2 ht
  have hl := LvS_of f2 ht (show 0 < 10 by omega)
  have hwC : C 12 5 = nI w := by rw [f6]; exact wD
  obtain ⟨I8, IL, -⟩ := hM.2.2.2.2.2.2
  obtain ⟨-, -, hW, ⟨ps, vs, ws, rC, o, d1, d2, d3⟩⟩ := IL 0 (by omega)
  rw [Nat.mul_zero, Nat.add_zero] at rC
  rw [Nat.add_zero] at d1 d2
  have hrc : rc < 2147483648 := by omega
  have good : MayE C D rc nw bw br t len kd a1 a2 a3 φ N H K l (1, C, ρ) (1, D, σ) := Or.inr ⟨rfl, rfl, kp, hF, hM, Sty_rf⟩
  clear fe
  unfold gX2_mayEnd
  refine hv_up (fun _ => fX2_mayEnd.eq_2 ..) ?_
  simp only [↓reduceIte, hR]
  refine hv_bind (P := fun y => y = (92 + 71 * t + 8 + 6 * 0, C)) (c_level (j := 0) f2 ht (by omega) C rfl) ?_
  rintro _ rfl
  rw [Nat.mul_zero, Nat.add_zero]
  rw [Nat.mul_zero, Nat.add_zero] at hl
  by_cases h3 : D 537 27 = 3
  · have hC3 : C 12 5 = 3 := by rw [f6]; exact h3
    try simp only [↓reduceIte, Nat.reduceEqDiff, Option.bind_some, ao_let, n_ell, f1, hC3]
    try simp (disch := first | omega | assumption) only [↓reduceIte, Nat.reduceEqDiff, Option.bind_some, ao_let, t_le, f_le, t_lt, f_lt, f_eq, u_eq, u_n1, u_n2, n_cl, n_lt, n_le, n_eq, n_ltl, n_llt, n_lel, n_lle, n_eql, n_leq, n_add, n_mul, n_sub, n_addl, n_ladd, n_mull, n_lmul, n_subl, Int32.reduceLT, Int32.reduceLE, Int32.reduceAdd, Int32.reduceSub, Int32.reduceMul, Int32.reduceToNatClampNeg, not_false_eq_true, not_true_eq_false, or_false, false_or, or_self, and_self, false_and, true_and, and_false, and_true, true_or, or_true, Nat.reduceAdd, Nat.reduceMul, Nat.reduceLT, Nat.reduceLeDiff, ne_eq, n_ell, f1, hC3]
    refine hv_up (fun _ => fX2_mayEnd.eq_2 ..) ?_
    simp only [↓reduceIte, Nat.reduceEqDiff]
    refine hv_mono (me_loop (o := o) ht hnl hrc d3 ps.length 0 C D ρ σ kp (by omega) hF hM Sty_rf h3 rC d1 (fun p hp => ⟨(d2 p hp).1, (d2 p hp).2.2.2.1, (d2 p hp).2.2.2.2⟩) (-1) (Or.inl ⟨rfl, rfl⟩)) (fun y hy => ?_)
    unfold gX12_mayEnd
    refine hv_up (fun _ => fX12_mayEnd.eq_2 ..) ?_
    simp only [↓reduceIte, f4, h3, show ((3 : Int32) = 4) = False from by decide]
    exact hy
  · have hC3 : (C 12 5 = 3) = False := by rw [f6]; exact eq_false h3
    have h3' : (D 537 27 = 3) = False := eq_false h3
    -- has the block written?
    have hm0 : C (92 + 71 * t + 8) 6 = 0 ↔ ∀ p, p < 26 → D 578 (t * 12 * 26 + p) = 0 := by
      have hW2 := hW.2
      have hW1 := hW.1
      rw [Nat.mul_zero, Nat.add_zero] at hW1 hW2
      simp only [Nat.add_zero] at hW2
      constructor
      · intro e p hp
        rw [(hW2 p hp).1, e, bt_0]
        simp
      · intro h
        refine bt_all _ (fun p hp => ?_) hW1
        have := (hW2 p hp).1
        rw [h p hp] at this
        by_cases q : bt (C (92 + 71 * t + 8) 6) p = true
        · rw [if_pos q] at this
          exact absurd this (by decide)
        · simpa using q
    have hfl : ∀ p, p < 26 → D 578 (t * 12 * 26 + p) = 0 ∨ D 578 (t * 12 * 26 + p) = 1 := fun p hp => by
      have hW2 := (hW.2 p hp).1
      rw [Nat.add_zero] at hW2
      rw [hW2]
      by_cases q : bt (C (92 + 71 * t + 8 + 6 * 0) 6) p = true
      · rw [if_pos q]; exact Or.inr rfl
      · rw [if_neg q]; exact Or.inl rfl
    have dhas : ∀ {Q : Int32 × ao_M → Prop}, (C (92 + 71 * t + 8) 6 = 0 → Q (0, D)) → (C (92 + 71 * t + 8) 6 ≠ 0 → Q (1, D)) → hv (fun n => gX12_hasWrites n 537 (nI t) D σ) Q := fun q1 q2 => d_hasw f4 ht hfl (fun h => q1 (hm0.mpr h)) (fun h => q2 (fun e => h (hm0.mp e)))
    by_cases hz : C (92 + 71 * t + 8) 6 = 0
    · try simp only [↓reduceIte, Nat.reduceEqDiff, Option.bind_some, ao_let, n_ell, f1, hC3, hl, hz]
      try simp (disch := first | omega | assumption) only [↓reduceIte, Nat.reduceEqDiff, Option.bind_some, ao_let, t_le, f_le, t_lt, f_lt, f_eq, u_eq, u_n1, u_n2, n_cl, n_lt, n_le, n_eq, n_ltl, n_llt, n_lel, n_lle, n_eql, n_leq, n_add, n_mul, n_sub, n_addl, n_ladd, n_mull, n_lmul, n_subl, Int32.reduceLT, Int32.reduceLE, Int32.reduceAdd, Int32.reduceSub, Int32.reduceMul, Int32.reduceToNatClampNeg, not_false_eq_true, not_true_eq_false, or_false, false_or, or_self, and_self, false_and, true_and, and_false, and_true, true_or, or_true, Nat.reduceAdd, Nat.reduceMul, Nat.reduceLT, Nat.reduceLeDiff, ne_eq, n_ell, f1, hC3, hl, hz]
      refine hv_some ?_
      unfold gX12_mayEnd
      refine hv_up (fun _ => fX12_mayEnd.eq_2 ..) ?_
      generalize MayE C D rc nw bw br t len kd a1 a2 a3 φ N H K l (1, C, ρ) = P at good ⊢
      by_cases h4 : D 537 27 = 4
      · simp only [↓reduceIte, f4, h4]
        exact hv_some good
      · simp only [↓reduceIte, f4, h4, h3']
        refine hv_bind (P := fun y => y = (0, D)) (dhas (fun _ => rfl) (fun q => absurd hz q)) ?_
        rintro _ rfl
        simp only [↓reduceIte]
        exact hv_some good
    · have hz' : (C (92 + 71 * t + 8) 6 = 0) = False := eq_false hz
      try simp only [↓reduceIte, Nat.reduceEqDiff, Option.bind_some, ao_let, n_ell, f1, hC3, hl, hz']
      try simp (disch := first | omega | assumption) only [↓reduceIte, Nat.reduceEqDiff, Option.bind_some, ao_let, t_le, f_le, t_lt, f_lt, f_eq, u_eq, u_n1, u_n2, n_cl, n_lt, n_le, n_eq, n_ltl, n_llt, n_lel, n_lle, n_eql, n_leq, n_add, n_mul, n_sub, n_addl, n_ladd, n_mull, n_lmul, n_subl, Int32.reduceLT, Int32.reduceLE, Int32.reduceAdd, Int32.reduceSub, Int32.reduceMul, Int32.reduceToNatClampNeg, not_false_eq_true, not_true_eq_false, or_false, false_or, or_self, and_self, false_and, true_and, and_false, and_true, true_or, or_true, Nat.reduceAdd, Nat.reduceMul, Nat.reduceLT, Nat.reduceLeDiff, ne_eq, n_ell, f1, hC3, hl, hz']
      refine hv_up (fun _ => fX2_mayEnd.eq_2 ..) ?_
      simp only [↓reduceIte, Nat.reduceEqDiff]
      refine hv_up (fun _ => fX2_mayEnd.eq_2 ..) ?_
      try simp only [↓reduceIte, Nat.reduceEqDiff, Option.bind_some, ao_let, n_ell, f1, hC3]
      try simp (disch := first | omega | assumption) only [↓reduceIte, Nat.reduceEqDiff, Option.bind_some, ao_let, t_le, f_le, t_lt, f_lt, f_eq, u_eq, u_n1, u_n2, n_cl, n_lt, n_le, n_eq, n_ltl, n_llt, n_lel, n_lle, n_eql, n_leq, n_add, n_mul, n_sub, n_addl, n_ladd, n_mull, n_lmul, n_subl, Int32.reduceLT, Int32.reduceLE, Int32.reduceAdd, Int32.reduceSub, Int32.reduceMul, Int32.reduceToNatClampNeg, not_false_eq_true, not_true_eq_false, or_false, false_or, or_self, and_self, false_and, true_and, and_false, and_true, true_or, or_true, Nat.reduceAdd, Nat.reduceMul, Nat.reduceLT, Nat.reduceLeDiff, ne_eq, n_ell, f1, hC3]
      by_cases h1 : D 537 27 = 1 ∧ D 537 26 = D 560 t
      · -- by values, at the clock that it knows
        have hC1 : C 12 5 = 1 := by rw [f6]; exact h1.1
        have hck : C 13 4 = C (92 + 71 * t) 14 := by
          obtain ⟨f, g, h, pc, pd, ch, ev, ec⟩ := f5
          rw [ec, hM.2.2.1.2.2.2.2.2.2.1]; exact h1.2
        refine hv_up (fun _ => fX2_mayEnd.eq_2 ..) ?_
        simp only [↓reduceIte, Nat.reduceEqDiff, f1]
        refine hv_bind (P := fun y => y = (-1, C)) ?_ ?_
        · unfold gX2_outermostWrong
          refine hv_up (fun _ => fX2_outermostWrong.eq_2 ..) ?_
          try simp only [↓reduceIte, Nat.reduceEqDiff, Option.bind_some, ao_let, n_ell, f1, hR, hC1, hck]
          try simp (disch := first | omega | assumption) only [↓reduceIte, Nat.reduceEqDiff, Option.bind_some, ao_let, t_le, f_le, t_lt, f_lt, f_eq, u_eq, u_n1, u_n2, n_cl, n_lt, n_le, n_eq, n_ltl, n_llt, n_lel, n_lle, n_eql, n_leq, n_add, n_mul, n_sub, n_addl, n_ladd, n_mull, n_lmul, n_subl, Int32.reduceLT, Int32.reduceLE, Int32.reduceAdd, Int32.reduceSub, Int32.reduceMul, Int32.reduceToNatClampNeg, not_false_eq_true, not_true_eq_false, or_false, false_or, or_self, and_self, false_and, true_and, and_false, and_true, true_or, or_true, Nat.reduceAdd, Nat.reduceMul, Nat.reduceLT, Nat.reduceLeDiff, ne_eq, n_ell, f1, hR, hC1, hck]
          exact hv_some rfl
        rintro _ rfl
        simp only [ao_let]
        refine hv_bind (P := fun y => y = (C, ρ)) ?_ ?_
        · unfold gX2_restart
          refine hv_up (fun _ => fX2_restart.eq_2 ..) ?_
          simp only [↓reduceIte, n_g1]
          exact hv_some rfl
        rintro _ rfl
        refine hv_up (fun _ => fX2_mayEnd.eq_2 ..) ?_
        simp only [↓reduceIte, Nat.reduceEqDiff, n_g2]
        refine hv_some ?_
        unfold gX12_mayEnd
        refine hv_up (fun _ => fX12_mayEnd.eq_2 ..) ?_
        generalize MayE C D rc nw bw br t len kd a1 a2 a3 φ N H K l (1, C, ρ) = P at good ⊢
        simp only [↓reduceIte, f4, h1.1, show ((1 : Int32) = 4) = False from by decide, show ((1 : Int32) = 3) = False from by decide]
        refine hv_bind (P := fun y => y = (1, D)) (dhas (fun q => absurd q hz) (fun _ => rfl)) ?_
        rintro _ rfl
        have h10 : ((1 : Int32) = 0) = False := by decide
        have h11 := h1.1
        have h12 := h1.2
        try simp only [↓reduceIte, Nat.reduceEqDiff, Option.bind_some, ao_let, n_ell, f4, h10, h11, h12]
        try simp (disch := first | omega | assumption) only [↓reduceIte, Nat.reduceEqDiff, Option.bind_some, ao_let, t_le, f_le, t_lt, f_lt, f_eq, u_eq, u_n1, u_n2, n_cl, n_lt, n_le, n_eq, n_ltl, n_llt, n_lel, n_lle, n_eql, n_leq, n_add, n_mul, n_sub, n_addl, n_ladd, n_mull, n_lmul, n_subl, Int32.reduceLT, Int32.reduceLE, Int32.reduceAdd, Int32.reduceSub, Int32.reduceMul, Int32.reduceToNatClampNeg, not_false_eq_true, not_true_eq_false, or_false, false_or, or_self, and_self, false_and, true_and, and_false, and_true, true_or, or_true, Nat.reduceAdd, Nat.reduceMul, Nat.reduceLT, Nat.reduceLeDiff, ne_eq, n_ell, f4, h10, h11, h12]
        exact hv_some good
      · refine hv_mono (me_go hF ht hM h1 _ _) (fun y hy => ?_)
        unfold gX12_mayEnd
        refine hv_up (fun _ => fX12_mayEnd.eq_2 ..) ?_
        by_cases h4 : D 537 27 = 4
        · -- one at a time: no read is wrong
          simp only [↓reduceIte, f4, h4]
          refine hv_some ?_
          obtain ⟨Ng, wg, eg, hg⟩ := hy
          have hwl : hv (fun n => gX12_goesOn n 537 (nI t) D σ) (fun z => z = (1, D, σ)) := by
            unfold gX12_goesOn
            refine hv_up (fun _ => fX12_goesOn.eq_2 ..) ?_
            simp only [↓reduceIte, f4]
            refine hv_bind (P := fun y => y = (-1, D)) (wl_P hF ht hM (fun x hx => ?_)) ?_
            · rcases hx with ⟨j, h1, h2, h3, ⟨p, p1, p2, p3⟩, h5⟩ | ⟨h1, h2⟩
              · rw [h4] at p3
                exact absurd p3 wrp_4
              · rw [h1]
            rintro _ rfl
            simp only [n_g2, ↓reduceIte]
            exact hv_some rfl
          obtain ⟨Nh, wh, eh, hh⟩ := hwl
          have e1 : wg = (1, D, σ) := by
            have q1 := eg (max Ng Nh) (by omega)
            have q2 := eh (max Ng Nh) (by omega)
            rw [q1] at q2
            rw [Option.some.inj q2]; exact hh
          rcases hg with ⟨e, -⟩ | ⟨-, e⟩
          · rw [e1] at e
            exact absurd e (show ¬ (1 : Int32) = 0 by decide)
          · rw [e]; exact good
        · have h4' : (D 537 27 = 4) = False := eq_false h4
          simp only [↓reduceIte, f4, h4', h3']
          refine hv_bind (P := fun y => y = (1, D)) (dhas (fun q => absurd q hz) (fun _ => rfl)) ?_
          rintro _ rfl
          simp only [show ((1 : Int32) = 0) = False from by decide, ↓reduceIte]
          have d175 : hv (fun n => fX12_mayEnd n 175 537 (nI t) 0 0 0 0 0 D σ) (fun w => MayE C D rc nw bw br t len kd a1 a2 a3 φ N H K l y w) := by
            refine hv_up (fun _ => fX12_mayEnd.eq_2 ..) ?_
            simp only [↓reduceIte, Nat.reduceEqDiff, f4]
            refine hv_bind hy ?_
            rintro ⟨b, D2, σ2⟩ hb
            have : b = 0 ∨ b = 1 := by
              rcases hb with ⟨e, -⟩ | ⟨e, -⟩
              · exact Or.inl e
              · exact Or.inr (Prod.mk.inj e).1
            refine hv_up (fun _ => fX12_mayEnd.eq_2 ..) ?_
            simp only [↓reduceIte, Nat.reduceEqDiff, this]
            refine hv_some ?_
            rcases hb with ⟨e1, e2, e3⟩ | ⟨e1, e2⟩
            · exact Or.inl ⟨e1, e2, e3⟩
            · rw [e1, e2]
              exact good
          by_cases e1 : D 537 27 = 1
          · have hck : (D 537 26 = D 560 t) = False := eq_false (fun z => h1 ⟨e1, z⟩)
            generalize hEq : (fun w => MayE C D rc nw bw br t len kd a1 a2 a3 φ N H K l y w) = P at d175 ⊢
            try simp only [↓reduceIte, Nat.reduceEqDiff, Option.bind_some, ao_let, n_ell, f4, e1, hck]
            try simp (disch := first | omega | assumption) only [↓reduceIte, Nat.reduceEqDiff, Option.bind_some, ao_let, t_le, f_le, t_lt, f_lt, f_eq, u_eq, u_n1, u_n2, n_cl, n_lt, n_le, n_eq, n_ltl, n_llt, n_lel, n_lle, n_eql, n_leq, n_add, n_mul, n_sub, n_addl, n_ladd, n_mull, n_lmul, n_subl, Int32.reduceLT, Int32.reduceLE, Int32.reduceAdd, Int32.reduceSub, Int32.reduceMul, Int32.reduceToNatClampNeg, not_false_eq_true, not_true_eq_false, or_false, false_or, or_self, and_self, false_and, true_and, and_false, and_true, true_or, or_true, Nat.reduceAdd, Nat.reduceMul, Nat.reduceLT, Nat.reduceLeDiff, ne_eq, n_ell, f4, e1, hck]
            exact d175
          · simp only [e1, ↓reduceIte]
            exact d175
end Me
