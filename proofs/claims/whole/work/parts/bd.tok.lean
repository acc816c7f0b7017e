set_option linter.unusedSimpArgs false
set_option linter.unusedVariables false
/-! ===== tokens: the reference's ===== -/
/-- the reference's text -/
def DT (D : ao_M) (σ : ao_H) (s : Fn) (len : Nat) : Prop := σ.2.1 537 = 22 ∧ σ.1 537 5 = some 540 ∧ σ.2.1 540 = 1 ∧ σ.2.2.1 540 = 1000 ∧ D 537 7 = nI len ∧ len ≤ 1000 ∧ (∀ i, i < len → D 540 i = s i ∧ bytP (s i))
theorem DT_fr {D D' : ao_M} {σ : ao_H} {s : Fn} {len : Nat} (h : DT D σ s len) (h1 : D' 537 7 = D 537 7) (h2 : ∀ i, D' 540 i = D 540 i) : DT D' σ s len := by
  obtain ⟨a1, a2, a3, a4, a5, a6, a7⟩ := h
  exact ⟨a1, a2, a3, a4, h1.trans a5, a6, fun i hi => by rw [h2]; exact a7 i hi⟩
theorem d_byte {D : ao_M} {σ : ao_H} {s : Fn} {len p : Nat} (h : DT D σ s len) (hp : p < len) : gX12_byteAt 537 (nI p) D σ = some (s p, D) := by
  obtain ⟨a1, a2, a3, a4, a5, a6, a7⟩ := h
  unfold gX12_byteAt
  try simp only [↓reduceIte, Nat.reduceEqDiff, Option.bind_some, ao_let, n_ell, a1, a2, a3, a4, a5, (a7 p hp).1]
  try simp (disch := first | omega | assumption) only [↓reduceIte, Nat.reduceEqDiff, Option.bind_some, ao_let, t_le, f_le, t_lt, f_lt, f_eq, u_eq, u_n1, u_n2, n_cl, n_lt, n_le, n_eq, n_ltl, n_llt, n_lel, n_lle, n_eql, n_leq, n_add, n_mul, n_sub, n_addl, n_ladd, n_mull, n_lmul, n_subl, Int32.reduceLT, Int32.reduceLE, Int32.reduceAdd, Int32.reduceSub, Int32.reduceMul, Int32.reduceToNatClampNeg, not_false_eq_true, not_true_eq_false, or_false, false_or, or_self, and_self, false_and, true_and, and_false, and_true, true_or, or_true, Nat.reduceAdd, Nat.reduceMul, Nat.reduceLT, Nat.reduceLeDiff, ne_eq, n_ell, a1, a2, a3, a4, a5, (a7 p hp).1]
theorem d_byteN {D : ao_M} {σ : ao_H} {s : Fn} {len p : Nat} (h : DT D σ s len) (hp : len ≤ p) (hp2 : p ≤ 2000) : gX12_byteAt 537 (nI p) D σ = some (-1, D) := by
  obtain ⟨a1, a2, a3, a4, a5, a6, a7⟩ := h
  unfold gX12_byteAt
  try simp only [↓reduceIte, Nat.reduceEqDiff, Option.bind_some, ao_let, n_ell, a1, a2, a3, a4, a5]
  try simp (disch := first | omega | assumption) only [↓reduceIte, Nat.reduceEqDiff, Option.bind_some, ao_let, t_le, f_le, t_lt, f_lt, f_eq, u_eq, u_n1, u_n2, n_cl, n_lt, n_le, n_eq, n_ltl, n_llt, n_lel, n_lle, n_eql, n_leq, n_add, n_mul, n_sub, n_addl, n_ladd, n_mull, n_lmul, n_subl, Int32.reduceLT, Int32.reduceLE, Int32.reduceAdd, Int32.reduceSub, Int32.reduceMul, Int32.reduceToNatClampNeg, not_false_eq_true, not_true_eq_false, or_false, false_or, or_self, and_self, false_and, true_and, and_false, and_true, true_or, or_true, Nat.reduceAdd, Nat.reduceMul, Nat.reduceLT, Nat.reduceLeDiff, ne_eq, n_ell, a1, a2, a3, a4, a5]
theorem d_dgt {x : Int32} (h : bytP x) {M : ao_M} {ρ : ao_H} : gX12_isDigit x M ρ = some (if dgtP x then 1 else 0, M) := by
  have h0 := all_byte (P := fun x => (if x < 48 then (0 : Int32) else if 57 < x then 0 else 1) = if dgtP x then 1 else 0) (by decide +kernel) x h.1 h.2
  unfold gX12_isDigit
  by_cases h1 : x < 48
  · rw [if_pos h1] at h0 ⊢; rw [← h0]
  · rw [if_neg h1] at h0 ⊢
    by_cases h2 : 57 < x
    · rw [if_pos h2] at h0 ⊢; rw [← h0]
    · rw [if_neg h2] at h0 ⊢; rw [← h0]
theorem d_dgtN {M : ao_M} {ρ : ao_H} : gX12_isDigit (-1) M ρ = some (0, M) := by
  unfold gX12_isDigit
  rw [if_pos (by decide)]
theorem d_ltr {x : Int32} (h : bytP x) {M : ao_M} {ρ : ao_H} : hv (fun n => gX12_isLetter n x M ρ) (fun y => y = (if ltrP x then 1 else 0, M)) := by
  have h0 := all_byte (P := fun x => x < 97 ∧ (x < 65 ∧ ¬ ltrP x ∨ ¬ x < 65 ∧ (90 < x ∧ ¬ ltrP x ∨ ¬ 90 < x ∧ ltrP x)) ∨ ¬ x < 97 ∧ (x ≤ 122 ∧ ltrP x ∨ ¬ x ≤ 122 ∧ ¬ x < 65 ∧ 90 < x ∧ ¬ ltrP x)) (by decide +kernel) x h.1 h.2
  unfold gX12_isLetter
  refine hv_up (fun _ => fX12_isLetter.eq_2 ..) ?_
  rcases h0 with ⟨h1, h2⟩ | ⟨h1, ⟨h2, h3⟩ | ⟨h2, h3, h4, h5⟩⟩
  · simp only [↓reduceIte, if_pos h1]
    refine hv_up (fun _ => fX12_isLetter.eq_2 ..) ?_
    rcases h2 with ⟨h2, h3⟩ | ⟨h2, ⟨h3, h4⟩ | ⟨h3, h4⟩⟩
    · simp only [↓reduceIte, Nat.reduceEqDiff, if_pos h2, if_neg h3]
      exact hv_some rfl
    · simp only [↓reduceIte, Nat.reduceEqDiff, if_neg h2, if_pos h3, if_neg h4]
      exact hv_some rfl
    · simp only [↓reduceIte, Nat.reduceEqDiff, if_neg h2, if_neg h3, if_pos h4]
      refine hv_up (fun _ => fX12_isLetter.eq_2 ..) ?_
      simp only [↓reduceIte, Nat.reduceEqDiff]
      exact hv_some rfl
  · simp only [↓reduceIte, if_neg h1, if_pos h2, if_pos h3]
    refine hv_up (fun _ => fX12_isLetter.eq_2 ..) ?_
    simp only [↓reduceIte, Nat.reduceEqDiff]
    exact hv_some rfl
  · simp only [↓reduceIte, if_neg h1, if_neg h2]
    refine hv_up (fun _ => fX12_isLetter.eq_2 ..) ?_
    simp only [↓reduceIte, Nat.reduceEqDiff, if_neg h3, if_pos h4, if_neg h5]
    exact hv_some rfl
theorem d_ltrN {M : ao_M} {ρ : ao_H} : hv (fun n => gX12_isLetter n (-1) M ρ) (fun y => y = (0, M)) := by
  unfold gX12_isLetter
  refine hv_up (fun _ => fX12_isLetter.eq_2 ..) ?_
  simp only [↓reduceIte, if_pos (show (-1 : Int32) < 97 by decide)]
  refine hv_up (fun _ => fX12_isLetter.eq_2 ..) ?_
  simp only [↓reduceIte, Nat.reduceEqDiff, if_pos (show (-1 : Int32) < 65 by decide)]
  exact hv_some rfl
theorem tok_blk {σ : ao_H} {s : Fn} {len : Nat} {Q : ao_M → Prop} : ∀ (k p : Nat) (D : ao_M), p + k = len → DT D σ s len → D 537 8 = nI p → (∀ D', DT D' σ s len → (∀ x j, ¬ (x = 537 ∧ j = 8) → D' x j = D x j) → D' 537 8 = nI (skp blkP s k p) → hv (fun n => fX12_token n 0 537 0 0 0 0 D' σ) Q) → hv (fun n => fX12_token n 0 537 0 0 0 0 D σ) Q := by
  intro k
  induction k with
  | zero =>
    intro p D hk hD h8 q
    exact q D hD (fun _ _ _ => rfl) h8
  | succ k ih =>
    intro p D hk hD h8 q
    by_cases hp : blkP (s p)
    · have a1 := hD.1
      have hb := d_byte hD (show p < len by omega)
      have a6 := hD.2.2.2.2.2.1
      have st : hv (fun n => fX12_token n 26 537 0 0 0 0 D σ) Q := by
        refine hv_up (fun _ => fX12_token.eq_2 ..) ?_
        simp only [Nat.reduceEqDiff, ↓reduceIte, if_pos a1, ao_let, h8, show nI p + (1 : Int32) = nI (p + 1) from n_add]
        refine ih (p + 1) _ (by omega) (DT_fr hD (u_n2 (by omega)) (fun i => u_n1 (by omega))) u_eq (fun D' h1 h3 h4 => q D' h1 (fun x j hx => ?_) ?_)
        · rw [h3 x j hx]; exact u_ne (by omega)
        · rw [h4, skp, if_pos hp]
      refine hv_up (fun _ => fX12_token.eq_2 ..) ?_
      simp only [↓reduceIte, if_pos a1, h8, hb, Option.bind_some]
      by_cases h1 : s p = 10
      · simp only [if_pos h1]
        exact st
      · have h2 : s p = 32 := hp.resolve_left h1
        simp only [if_neg h1, if_pos h2]
        exact st
    · exact q D hD (fun _ _ _ => rfl) (by rw [skp, if_neg hp]; exact h8)
def rK (k : Nat) : Int32 := if k = 0 then 0 else if k = 1 then -1 else if k = 2 then 1 else if k = 3 then 2 else if k = 4 then 4 else if k ≤ 16 then 3 else 5
def sgw (k : Nat) : Int32 := if k = 17 then 123 else if k = 18 then 125 else if k = 19 then 40 else if k = 20 then 41 else if k = 21 then 59 else if k = 22 then 61 else if k = 23 then 300 else if k = 24 then 60 else if k = 25 then 43 else if k = 26 then 45 else 42
def rW (k : Nat) (v : Int32) : Int32 := if k ≤ 4 then v else if k ≤ 16 then nI (k - 5) else sgw k
/-- the reference's token is this -/
def TkP (D : ao_M) (σ : ao_H) (s : Fn) (len b : Nat) (y : ao_M) : Prop := DT y σ s len ∧ (∀ x j, ¬ (x = 537 ∧ (j = 8 ∨ j = 9 ∨ j = 10 ∨ j = 11)) → y x j = D x j) ∧ y 537 8 = nI (tkE s len b) ∧ y 537 9 = rK (tkK s len b) ∧ (2 ≤ tkK s len b → y 537 10 = rW (tkK s len b) (tkV s len b)) ∧ y 537 11 = nI b
theorem wo_skip {D : ao_M} {σ : ao_H} {b nn w st : Nat} {Q : Int32 × ao_M → Prop} (L : Nat) (hL : st + L < 57) (hc : ∀ j, j < L → ¬ ao_chr 12 (nI (st + j)) = 32) (q : hv (fun n => fX12_wordOf n 8 537 (nI b) (nI nn) (nI w) (nI st) (nI (st + L)) 0 0 0 D σ) Q) : ∀ (k i : Nat), i + k = L → hv (fun n => fX12_wordOf n 8 537 (nI b) (nI nn) (nI w) (nI st) (nI (st + i)) 0 0 0 D σ) Q := by
  have l12 : ao_len.getD 12 0 = 57 := by decide +kernel
  intro k
  induction k with
  | zero => intro i hi; rw [show i = L by omega]; exact q
  | succ k ih =>
    intro i hi
    refine hv_up (fun _ => fX12_wordOf.eq_2 ..) ?_
    simp only [Nat.reduceEqDiff, ↓reduceIte, l12]
    refine hv_ifF (by rw [n_le (by omega) (by omega)]; omega) ?_
    refine hv_ifT (by rw [n_cl (by omega), show ((0 : Int32)) = nI 0 from rfl, n_lt (by omega) (by omega)]; omega) ?_
    refine hv_ifF (hc i (by omega)) ?_
    refine hv_up (fun _ => fX12_wordOf.eq_2 ..) ?_
    simp only [Nat.reduceEqDiff, ↓reduceIte, ao_let, show nI (st + i) + (1 : Int32) = nI (st + (i + 1)) from n_add]
    exact ih (i + 1) (by omega)
theorem wo_cmp {D : ao_M} {σ : ao_H} {s : Fn} {len b nn w st L : Nat} {Q : Int32 × ao_M → Prop} (hD : DT D σ s len) (hb : b + nn ≤ len) (hst : st + nn < 57) (hl : ∀ i, i < nn → ltrP (s (b + i))) (hw : ∀ j, j < nn → ao_chr 12 (nI (st + j)) = ao_chr w (nI j)) (q1 : (∀ i, i < nn → ao_chr w (nI i) = (s (b + i) &&& 255)) → hv (fun n => fX12_wordOf n 98 537 (nI b) (nI nn) (nI w) (nI st) (nI L) 1 (nI nn) 0 D σ) Q) (q0 : (¬ ∀ i, i < nn → ao_chr w (nI i) = (s (b + i) &&& 255)) → ∀ i, i ≤ nn → hv (fun n => fX12_wordOf n 98 537 (nI b) (nI nn) (nI w) (nI st) (nI L) 0 (nI i) 0 D σ) Q) : ∀ (k i : Nat), i + k = nn → (∀ j, j < i → ao_chr w (nI j) = (s (b + j) &&& 255)) → hv (fun n => fX12_wordOf n 52 537 (nI b) (nI nn) (nI w) (nI st) (nI L) 1 (nI i) 0 D σ) Q := by
  have l12 : ao_len.getD 12 0 = 57 := by decide +kernel
  obtain ⟨a1, a2, a3, a4, a5, a6, a7⟩ := hD
  intro k
  induction k with
  | zero =>
    intro i hi hj
    refine hv_up (fun _ => fX12_wordOf.eq_2 ..) ?_
    simp only [Nat.reduceEqDiff, ↓reduceIte]
    refine hv_ifT (by rw [n_le (by omega) (by omega)]; omega) ?_
    have e : i = nn := by omega
    subst e
    exact q1 hj
  | succ k ih =>
    intro i hi hj
    have hby := (a7 (b + i) (by omega)).2
    have h255 : (s (b + i) &&& 255) = s (b + i) := all_byte (P := fun x => ltrP x → (x &&& 255) = x) (by decide +kernel) _ hby.1 hby.2 (hl i (by omega))
    refine hv_up (fun _ => fX12_wordOf.eq_2 ..) ?_
    simp only [Nat.reduceEqDiff, ↓reduceIte, l12, n_add, if_neg (show ¬ (1 : Int32) = 0 by decide)]
    refine hv_ifF (by rw [n_le (by omega) (by omega)]; omega) ?_
    refine hv_ifT (by rw [n_cl (by omega), show ((0 : Int32)) = nI 0 from rfl, n_lt (by omega) (by omega)]; omega) ?_
    simp only [if_pos a1, a2, Option.bind_some, if_pos a3, a4]
    refine hv_ifT (by rw [n_cl (by omega), show ((0 : Int32)) = nI 0 from rfl, n_lt (by omega) (by omega)]; omega) ?_
    rw [n_cl (by omega), (a7 (b + i) (by omega)).1, hw i (by omega)]
    by_cases e : ao_chr w (nI i) = s (b + i)
    · simp only [if_pos e]
      refine hv_up (fun _ => fX12_wordOf.eq_2 ..) ?_
      simp only [Nat.reduceEqDiff, ↓reduceIte, ao_let, show nI i + (1 : Int32) = nI (i + 1) from n_add]
      refine ih (i + 1) (by omega) (fun j h => ?_)
      by_cases q : j = i
      · rw [q, h255]; exact e
      · exact hj j (by omega)
    · simp only [if_neg e]
      have hno : ¬ ∀ i, i < nn → ao_chr w (nI i) = (s (b + i) &&& 255) := fun h => e (by rw [h i (by omega), h255])
      refine hv_up (fun _ => fX12_wordOf.eq_2 ..) ?_
      simp only [Nat.reduceEqDiff, ↓reduceIte, ao_let, show nI i + (1 : Int32) = nI (i + 1) from n_add]
      refine hv_up (fun _ => fX12_wordOf.eq_2 ..) ?_
      simp only [Nat.reduceEqDiff, ↓reduceIte]
      by_cases h : nn ≤ i + 1
      · exact hv_ifT (by rw [n_le (by omega) (by omega)]; omega) (q0 hno (i + 1) (by omega))
      · exact hv_ifF (by rw [n_le (by omega) (by omega)]; omega) (q0 hno (i + 1) (by omega))
theorem wo_step {D : ao_M} {σ : ao_H} {s : Fn} {len b nn : Nat} {Q : Int32 × ao_M → Prop} (hD : DT D σ s len) (hn : 0 < nn) (hb : b + nn ≤ len) (hl : ∀ i, i < nn → ltrP (s (b + i))) (w st L : Nat) (hL : st + L < 57) (hw : w < 12) (hc : ∀ j, j < L → ¬ ao_chr 12 (nI (st + j)) = 32 ∧ ao_chr 12 (nI (st + j)) = ao_chr w (nI j)) (he : ao_chr 12 (nI (st + L)) = 32) (hlen : ao_len.getD w 0 = L) (q1 : mtw s b nn w → Q (nI w, D)) (q0 : ¬ mtw s b nn w → hv (fun n => fX12_wordOf n 8 537 (nI b) (nI nn) (nI (w + 1)) (nI (st + L + 1)) (nI (st + L + 1)) 0 0 0 D σ) Q) : hv (fun n => fX12_wordOf n 8 537 (nI b) (nI nn) (nI w) (nI st) (nI st) 0 0 0 D σ) Q := by
  have l12 : ao_len.getD 12 0 = 57 := by decide +kernel
  have a6 := hD.2.2.2.2.2.1
  refine wo_skip (st := st) L hL (fun j hj => (hc j hj).1) ?_ L 0 (by omega)
  refine hv_up (fun _ => fX12_wordOf.eq_2 ..) ?_
  simp only [Nat.reduceEqDiff, ↓reduceIte, l12, n_sub (show st ≤ st + L by omega), Nat.add_sub_cancel_left]
  refine hv_ifF (by rw [n_le (by omega) (by omega)]; omega) ?_
  refine hv_ifT (by rw [n_cl (by omega), show ((0 : Int32)) = nI 0 from rfl, n_lt (by omega) (by omega)]; omega) ?_
  refine hv_ifT he ?_
  have no : ¬ mtw s b nn w → ∀ i, i ≤ nn → hv (fun n => fX12_wordOf n 98 537 (nI b) (nI nn) (nI w) (nI st) (nI (st + L)) 0 (nI i) 0 D σ) Q := by
    intro h i hi
    refine hv_up (fun _ => fX12_wordOf.eq_2 ..) ?_
    simp only [Nat.reduceEqDiff, ↓reduceIte, ao_let, show nI w + (1 : Int32) = nI (w + 1) from n_add, show nI (st + L) + (1 : Int32) = nI (st + L + 1) from n_add]
    refine hv_up (fun _ => fX12_wordOf.eq_2 ..) ?_
    simp only [Nat.reduceEqDiff, ↓reduceIte, ao_let, show nI (st + L) + (1 : Int32) = nI (st + L + 1) from n_add]
    exact q0 h
  by_cases e : L = nn
  · refine hv_ifT (by rw [e]) ?_
    refine hv_up (fun _ => fX12_wordOf.eq_2 ..) ?_
    simp only [Nat.reduceEqDiff, ↓reduceIte]
    subst e
    refine wo_cmp (w := w) hD hb hL hl (fun j hj => (hc j hj).2) (fun h => ?_) (fun h i hi => no (fun hm => h hm.2) i hi) L 0 (by omega) (fun j h => by omega)
    refine hv_up (fun _ => fX12_wordOf.eq_2 ..) ?_
    simp only [Nat.reduceEqDiff, ↓reduceIte, if_neg (show ¬ (1 : Int32) = 0 by decide)]
    exact hv_some (q1 ⟨hlen, h⟩)
  · refine hv_ifF (by rw [n_eq (by omega) (by omega)]; exact e) ?_
    refine hv_up (fun _ => fX12_wordOf.eq_2 ..) ?_
    simp only [Nat.reduceEqDiff, ↓reduceIte]
    refine hv_up (fun _ => fX12_wordOf.eq_2 ..) ?_
    simp only [Nat.reduceEqDiff, ↓reduceIte]
    refine hv_ifF (by rw [show ((0 : Int32)) = nI 0 from rfl, n_le (by omega) (by omega)]; omega) ?_
    exact no (fun hm => e (hlen.symm.trans hm.1)) 0 (by omega)
/-- the word that lies there -/
theorem wo_ok {D : ao_M} {σ : ao_H} {s : Fn} {len b nn : Nat} (hD : DT D σ s len) (hn : 0 < nn) (hb : b + nn ≤ len) (hl : ∀ i, i < nn → ltrP (s (b + i))) : hv (fun n => gX12_wordOf n 537 (nI b) (nI nn) D σ) (fun y => y.2 = D ∧ (kwd s b nn 12 0 = 1 ∧ y.1 = -1 ∨ ∃ w, w < 12 ∧ kwd s b nn 12 0 = 5 + w ∧ y.1 = nI w)) := by
  unfold gX12_wordOf
  refine hv_up (fun _ => fX12_wordOf.eq_2 ..) ?_
  simp only [↓reduceIte]
  refine wo_step hD hn hb hl 0 0 2 (by omega) (by omega) (by decide +kernel) (by decide +kernel) (by decide +kernel) (fun hm => ⟨rfl, Or.inr ⟨0, by omega, ?_, rfl⟩⟩) (fun hm0 => ?_)
  · simp only [kwd, hm, ↓reduceIte]
  refine wo_step hD hn hb hl 1 3 4 (by omega) (by omega) (by decide +kernel) (by decide +kernel) (by decide +kernel) (fun hm => ⟨rfl, Or.inr ⟨1, by omega, ?_, rfl⟩⟩) (fun hm1 => ?_)
  · simp only [kwd, hm, hm0, ↓reduceIte]
  refine wo_step hD hn hb hl 2 8 5 (by omega) (by omega) (by decide +kernel) (by decide +kernel) (by decide +kernel) (fun hm => ⟨rfl, Or.inr ⟨2, by omega, ?_, rfl⟩⟩) (fun hm2 => ?_)
  · simp only [kwd, hm, hm0, hm1, ↓reduceIte]
  refine wo_step hD hn hb hl 3 14 3 (by omega) (by omega) (by decide +kernel) (by decide +kernel) (by decide +kernel) (fun hm => ⟨rfl, Or.inr ⟨3, by omega, ?_, rfl⟩⟩) (fun hm3 => ?_)
  · simp only [kwd, hm, hm0, hm1, hm2, ↓reduceIte]
  refine wo_step hD hn hb hl 4 18 4 (by omega) (by omega) (by decide +kernel) (by decide +kernel) (by decide +kernel) (fun hm => ⟨rfl, Or.inr ⟨4, by omega, ?_, rfl⟩⟩) (fun hm4 => ?_)
  · simp only [kwd, hm, hm0, hm1, hm2, hm3, ↓reduceIte]
  refine wo_step hD hn hb hl 5 23 4 (by omega) (by omega) (by decide +kernel) (by decide +kernel) (by decide +kernel) (fun hm => ⟨rfl, Or.inr ⟨5, by omega, ?_, rfl⟩⟩) (fun hm5 => ?_)
  · simp only [kwd, hm, hm0, hm1, hm2, hm3, hm4, ↓reduceIte]
  refine wo_step hD hn hb hl 6 28 2 (by omega) (by omega) (by decide +kernel) (by decide +kernel) (by decide +kernel) (fun hm => ⟨rfl, Or.inr ⟨6, by omega, ?_, rfl⟩⟩) (fun hm6 => ?_)
  · simp only [kwd, hm, hm0, hm1, hm2, hm3, hm4, hm5, ↓reduceIte]
  refine wo_step hD hn hb hl 7 31 5 (by omega) (by omega) (by decide +kernel) (by decide +kernel) (by decide +kernel) (fun hm => ⟨rfl, Or.inr ⟨7, by omega, ?_, rfl⟩⟩) (fun hm7 => ?_)
  · simp only [kwd, hm, hm0, hm1, hm2, hm3, hm4, hm5, hm6, ↓reduceIte]
  refine wo_step hD hn hb hl 8 37 4 (by omega) (by omega) (by decide +kernel) (by decide +kernel) (by decide +kernel) (fun hm => ⟨rfl, Or.inr ⟨8, by omega, ?_, rfl⟩⟩) (fun hm8 => ?_)
  · simp only [kwd, hm, hm0, hm1, hm2, hm3, hm4, hm5, hm6, hm7, ↓reduceIte]
  refine wo_step hD hn hb hl 9 42 4 (by omega) (by omega) (by decide +kernel) (by decide +kernel) (by decide +kernel) (fun hm => ⟨rfl, Or.inr ⟨9, by omega, ?_, rfl⟩⟩) (fun hm9 => ?_)
  · simp only [kwd, hm, hm0, hm1, hm2, hm3, hm4, hm5, hm6, hm7, hm8, ↓reduceIte]
  refine wo_step hD hn hb hl 10 47 3 (by omega) (by omega) (by decide +kernel) (by decide +kernel) (by decide +kernel) (fun hm => ⟨rfl, Or.inr ⟨10, by omega, ?_, rfl⟩⟩) (fun hm10 => ?_)
  · simp only [kwd, hm, hm0, hm1, hm2, hm3, hm4, hm5, hm6, hm7, hm8, hm9, ↓reduceIte]
  refine wo_step hD hn hb hl 11 51 5 (by omega) (by omega) (by decide +kernel) (by decide +kernel) (by decide +kernel) (fun hm => ⟨rfl, Or.inr ⟨11, by omega, ?_, rfl⟩⟩) (fun hm11 => ?_)
  · simp only [kwd, hm, hm0, hm1, hm2, hm3, hm4, hm5, hm6, hm7, hm8, hm9, hm10, ↓reduceIte]
  have l12 : ao_len.getD 12 0 = 57 := by decide +kernel
  refine hv_up (fun _ => fX12_wordOf.eq_2 ..) ?_
  simp only [Nat.reduceEqDiff, ↓reduceIte, l12]
  refine hv_ifT (by decide) ?_
  exact hv_some ⟨rfl, Or.inl ⟨by simp only [kwd, hm0, hm1, hm2, hm3, hm4, hm5, hm6, hm7, hm8, hm9, hm10, hm11, ↓reduceIte], rfl⟩⟩
