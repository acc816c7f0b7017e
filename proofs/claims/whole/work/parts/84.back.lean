set_option linter.unusedSimpArgs false
set_option linter.unusedVariables false
/-! ===== writes taken back ===== -/
/-- what a place has when levels k .. k + m - 1 have given back -/
def gbv (mk : Nat → Nat → Bool) (wv : Nat → Nat → Int32) (v : Nat → Int32) : Nat → Nat → Nat → Int32
  | _, 0, p => v p
  | k, m + 1, p => if mk k p then wv k p else gbv mk wv v (k + 1) m p
theorem gbv_snoc {mk : Nat → Nat → Bool} {wv : Nat → Nat → Int32} {v : Nat → Int32} : ∀ (m k p : Nat), gbv mk wv v k (m + 1) p = gbv mk wv (fun q => if mk (k + m) q then wv (k + m) q else v q) k m p := by
  intro m
  induction m with
  | zero => intro k p; simp [gbv]
  | succ m ih =>
    intro k p
    show (if mk k p = true then wv k p else gbv mk wv v (k + 1) (m + 1) p) = (if mk k p = true then wv k p else gbv mk wv (fun q => if mk (k + (m + 1)) q then wv (k + (m + 1)) q else v q) (k + 1) m p)
    rw [ih (k + 1) p, show k + 1 + m = k + (m + 1) by omega]
theorem gbv_congr {mk mk' : Nat → Nat → Bool} {wv wv' : Nat → Nat → Int32} {v v' : Nat → Int32} {p : Nat} : ∀ (m k : Nat), (∀ j, k ≤ j → j < k + m → mk j p = mk' j p ∧ (mk' j p = true → wv j p = wv' j p)) → v p = v' p → gbv mk wv v k m p = gbv mk' wv' v' k m p := by
  intro m
  induction m with
  | zero => intro k _ h; simpa [gbv] using h
  | succ m ih =>
    intro k h hv
    obtain ⟨a, b⟩ := h k (by omega) (by omega)
    simp only [gbv]
    rw [ih (k + 1) (fun j h1 h2 => h j (by omega) (by omega)) hv, a]
    by_cases e : mk' k p = true
    · simp [e, b e]
    · simp [e]
theorem dec_m1 (x : Int32) : x + -1 = x - 1 := by rw [Int32.sub_eq_add_neg]
theorem pre_lt : ∀ k, k < 20 → nI k - 1 < nI k := by decide
theorem c_giveL {ρ : ao_H} {lv : Nat} (hc : ShA ρ) (hl : LvS ρ lv) (h14 : lv ≠ 14 ∧ lv + 4 ≠ 14) : ∀ (k p : Nat) (C : ao_M), p + k = 26 →
    hv (fun n => fX2_giveBack n 2 12 lv (nI p) C ρ) (fun C' => C' = fun a i => if a = 14 ∧ p ≤ i ∧ i < 26 ∧ bt (C lv 6) i = true then C (lv + 4) i else C a i) := by
  intro k
  induction k with
  | zero =>
    intro p C h
    obtain rfl : p = 26 := by omega
    refine hv_up (fun _ => fX2_giveBack.eq_2 ..) ?_
    try simp only [↓reduceIte, Nat.reduceEqDiff, Option.bind_some, ao_let, hc, hl]
    try simp (disch := first | omega | assumption) only [↓reduceIte, Nat.reduceEqDiff, Option.bind_some, ao_let, t_le, f_le, t_lt, f_lt, f_eq, u_eq, u_n1, u_n2, n_cl, n_lt, n_le, n_eq, n_ltl, n_llt, n_lel, n_lle, n_eql, n_leq, n_add, n_mul, n_sub, n_addl, n_ladd, n_mull, n_lmul, n_subl, Int32.reduceLT, Int32.reduceLE, Int32.reduceAdd, Int32.reduceSub, Int32.reduceMul, Int32.reduceToNatClampNeg, not_false_eq_true, not_true_eq_false, or_false, false_or, or_self, and_self, false_and, true_and, and_false, and_true, true_or, or_true, Nat.reduceAdd, Nat.reduceMul, Nat.reduceLT, Nat.reduceLeDiff, ne_eq, hc, hl]
    refine hv_some ?_
    funext a i
    rw [if_neg (by omega)]
  | succ k ih =>
    intro p C h
    refine hv_up (fun _ => fX2_giveBack.eq_2 ..) ?_
    try simp only [↓reduceIte, Nat.reduceEqDiff, Option.bind_some, ao_let, hc, hl, bt_z]
    try simp (disch := first | omega | assumption) only [↓reduceIte, Nat.reduceEqDiff, Option.bind_some, ao_let, t_le, f_le, t_lt, f_lt, f_eq, u_eq, u_n1, u_n2, n_cl, n_lt, n_le, n_eq, n_ltl, n_llt, n_lel, n_lle, n_eql, n_leq, n_add, n_mul, n_sub, n_addl, n_ladd, n_mull, n_lmul, n_subl, Int32.reduceLT, Int32.reduceLE, Int32.reduceAdd, Int32.reduceSub, Int32.reduceMul, Int32.reduceToNatClampNeg, not_false_eq_true, not_true_eq_false, or_false, false_or, or_self, and_self, false_and, true_and, and_false, and_true, true_or, or_true, Nat.reduceAdd, Nat.reduceMul, Nat.reduceLT, Nat.reduceLeDiff, ne_eq, hc, hl, bt_z]
    by_cases hb : bt (C lv 6) p = false
    · simp only [hb, ↓reduceIte]
      refine hv_up (fun _ => fX2_giveBack.eq_2 ..) ?_
      try simp only [↓reduceIte, Nat.reduceEqDiff, Option.bind_some, ao_let, hc]
      try simp (disch := first | omega | assumption) only [↓reduceIte, Nat.reduceEqDiff, Option.bind_some, ao_let, t_le, f_le, t_lt, f_lt, f_eq, u_eq, u_n1, u_n2, n_cl, n_lt, n_le, n_eq, n_ltl, n_llt, n_lel, n_lle, n_eql, n_leq, n_add, n_mul, n_sub, n_addl, n_ladd, n_mull, n_lmul, n_subl, Int32.reduceLT, Int32.reduceLE, Int32.reduceAdd, Int32.reduceSub, Int32.reduceMul, Int32.reduceToNatClampNeg, not_false_eq_true, not_true_eq_false, or_false, false_or, or_self, and_self, false_and, true_and, and_false, and_true, true_or, or_true, Nat.reduceAdd, Nat.reduceMul, Nat.reduceLT, Nat.reduceLeDiff, ne_eq, hc]
      refine hv_mono (ih _ _ (by omega)) ?_
      rintro _ rfl
      funext a i
      by_cases e : i = p
      · subst e; simp [hb]
      · have : (p + 1 ≤ i) = (p ≤ i) := propext ⟨fun h => by omega, fun h => by omega⟩
        simp only [this]
    · have hb' : bt (C lv 6) p = true := by simpa using hb
      simp only [hb', ↓reduceIte, Bool.true_eq_false]
      refine hv_up (fun _ => fX2_giveBack.eq_2 ..) ?_
      try simp only [↓reduceIte, Nat.reduceEqDiff, Option.bind_some, ao_let, hc]
      try simp (disch := first | omega | assumption) only [↓reduceIte, Nat.reduceEqDiff, Option.bind_some, ao_let, t_le, f_le, t_lt, f_lt, f_eq, u_eq, u_n1, u_n2, n_cl, n_lt, n_le, n_eq, n_ltl, n_llt, n_lel, n_lle, n_eql, n_leq, n_add, n_mul, n_sub, n_addl, n_ladd, n_mull, n_lmul, n_subl, Int32.reduceLT, Int32.reduceLE, Int32.reduceAdd, Int32.reduceSub, Int32.reduceMul, Int32.reduceToNatClampNeg, not_false_eq_true, not_true_eq_false, or_false, false_or, or_self, and_self, false_and, true_and, and_false, and_true, true_or, or_true, Nat.reduceAdd, Nat.reduceMul, Nat.reduceLT, Nat.reduceLeDiff, ne_eq, hc]
      refine hv_mono (ih _ _ (by omega)) ?_
      rintro _ rfl
      funext a i
      simp (disch := omega) only [u_n1]
      by_cases e : a = 14 ∧ i = p
      · obtain ⟨rfl, rfl⟩ := e
        rw [if_neg (by omega), u_eq, if_pos ⟨rfl, by omega, by omega, hb'⟩]
      · by_cases e2 : a = 14 ∧ p ≤ i ∧ i < 26 ∧ bt (C lv 6) i = true
        · rw [if_pos e2, if_pos ⟨e2.1, by omega, e2.2.2.1, e2.2.2.2⟩]
        · rw [if_neg e2, if_neg (fun x => e2 ⟨x.1, by omega, x.2.2.1, x.2.2.2⟩), u_ne (by omega)]
theorem c_give {ρ : ao_H} {lv : Nat} {C : ao_M} (hc : ShA ρ) (hl : LvS ρ lv) (h14 : lv ≠ 14 ∧ lv + 4 ≠ 14) {Q : ao_M → Prop} (q : Q (fun a i => if a = 14 ∧ i < 26 ∧ bt (C lv 6) i = true then C (lv + 4) i else C a i)) : hv (fun n => gX2_giveBack n 12 lv C ρ) Q := by
  unfold gX2_giveBack
  refine hv_up (fun _ => fX2_giveBack.eq_2 ..) ?_
  try simp only [↓reduceIte, Nat.reduceEqDiff, Option.bind_some, ao_let, hc]
  try simp (disch := first | omega | assumption) only [↓reduceIte, Nat.reduceEqDiff, Option.bind_some, ao_let, t_le, f_le, t_lt, f_lt, f_eq, u_eq, u_n1, u_n2, n_cl, n_lt, n_le, n_eq, n_ltl, n_llt, n_lel, n_lle, n_eql, n_leq, n_add, n_mul, n_sub, n_addl, n_ladd, n_mull, n_lmul, n_subl, Int32.reduceLT, Int32.reduceLE, Int32.reduceAdd, Int32.reduceSub, Int32.reduceMul, Int32.reduceToNatClampNeg, not_false_eq_true, not_true_eq_false, or_false, false_or, or_self, and_self, false_and, true_and, and_false, and_true, true_or, or_true, Nat.reduceAdd, Nat.reduceMul, Nat.reduceLT, Nat.reduceLeDiff, ne_eq, hc]
  refine hv_mono (c_giveL hc hl h14 26 0 C rfl) ?_
  rintro _ rfl
  simp only [Nat.zero_le, true_and] at q ⊢
  exact q
theorem cv_eager {ρ : ao_H} (hs : ShA ρ) (C : ao_M) {Q : Int32 × ao_M → Prop} (q : Q (if C 12 5 = 3 ∨ C 12 5 = 4 then 1 else 0, C)) : hv (fun n => gX2_writesAtOnce n 12 C ρ) Q := by
  unfold gX2_writesAtOnce
  refine hv_up (fun _ => fX2_writesAtOnce.eq_2 ..) ?_
  try simp only [↓reduceIte, Nat.reduceEqDiff, Option.bind_some, ao_let, hs]
  try simp (disch := first | omega | assumption) only [↓reduceIte, Nat.reduceEqDiff, Option.bind_some, ao_let, t_le, f_le, t_lt, f_lt, f_eq, u_eq, u_n1, u_n2, n_cl, n_lt, n_le, n_eq, n_ltl, n_llt, n_lel, n_lle, n_eql, n_leq, n_add, n_mul, n_sub, n_addl, n_ladd, n_mull, n_lmul, n_subl, Int32.reduceLT, Int32.reduceLE, Int32.reduceAdd, Int32.reduceSub, Int32.reduceMul, Int32.reduceToNatClampNeg, not_false_eq_true, not_true_eq_false, or_false, false_or, or_self, and_self, false_and, true_and, and_false, and_true, true_or, or_true, Nat.reduceAdd, Nat.reduceMul, Nat.reduceLT, Nat.reduceLeDiff, ne_eq, hs]
  by_cases h3 : C 12 5 = 3
  · simp only [if_pos h3, h3, ite_true, true_or] at q ⊢
    refine hv_up (fun _ => fX2_writesAtOnce.eq_2 ..) ?_
    try simp only [↓reduceIte, Nat.reduceEqDiff, Option.bind_some, ao_let, hs]
    try simp (disch := first | omega | assumption) only [↓reduceIte, Nat.reduceEqDiff, Option.bind_some, ao_let, t_le, f_le, t_lt, f_lt, f_eq, u_eq, u_n1, u_n2, n_cl, n_lt, n_le, n_eq, n_ltl, n_llt, n_lel, n_lle, n_eql, n_leq, n_add, n_mul, n_sub, n_addl, n_ladd, n_mull, n_lmul, n_subl, Int32.reduceLT, Int32.reduceLE, Int32.reduceAdd, Int32.reduceSub, Int32.reduceMul, Int32.reduceToNatClampNeg, not_false_eq_true, not_true_eq_false, or_false, false_or, or_self, and_self, false_and, true_and, and_false, and_true, true_or, or_true, Nat.reduceAdd, Nat.reduceMul, Nat.reduceLT, Nat.reduceLeDiff, ne_eq, hs]
    exact hv_some q
  · by_cases h4 : C 12 5 = 4
    · simp only [if_neg h3, if_pos h4]
      rw [if_pos (Or.inr h4)] at q
      refine hv_up (fun _ => fX2_writesAtOnce.eq_2 ..) ?_
      try simp only [↓reduceIte, Nat.reduceEqDiff, Option.bind_some, ao_let, hs]
      try simp (disch := first | omega | assumption) only [↓reduceIte, Nat.reduceEqDiff, Option.bind_some, ao_let, t_le, f_le, t_lt, f_lt, f_eq, u_eq, u_n1, u_n2, n_cl, n_lt, n_le, n_eq, n_ltl, n_llt, n_lel, n_lle, n_eql, n_leq, n_add, n_mul, n_sub, n_addl, n_ladd, n_mull, n_lmul, n_subl, Int32.reduceLT, Int32.reduceLE, Int32.reduceAdd, Int32.reduceSub, Int32.reduceMul, Int32.reduceToNatClampNeg, not_false_eq_true, not_true_eq_false, or_false, false_or, or_self, and_self, false_and, true_and, and_false, and_true, true_or, or_true, Nat.reduceAdd, Nat.reduceMul, Nat.reduceLT, Nat.reduceLeDiff, ne_eq, hs]
      exact hv_some q
    · simp only [if_neg h3, if_neg h4]
      rw [if_neg (by simp [h3, h4])] at q
      exact hv_some q
/-- the level i of a runner -/
theorem c_level {ρ : ao_H} (hb : ShB ρ) {t j : Nat} (ht : t < 6) (hj : j < 10) (C : ao_M) {Q : Nat × ao_M → Prop} (q : Q (92 + 71 * t + 8 + 6 * j, C)) : hv (fun n => gX7_level n (92 + 71 * t) (nI j) C ρ) Q := by
  unfold gX7_level
  refine hv_up (fun _ => fX7_level.eq_2 ..) ?_
  try simp only [↓reduceIte, Nat.reduceEqDiff, Option.bind_some, ao_let, hb]
  try simp (disch := first | omega | assumption) only [↓reduceIte, Nat.reduceEqDiff, Option.bind_some, ao_let, t_le, f_le, t_lt, f_lt, f_eq, u_eq, u_n1, u_n2, n_cl, n_lt, n_le, n_eq, n_ltl, n_llt, n_lel, n_lle, n_eql, n_leq, n_add, n_mul, n_sub, n_addl, n_ladd, n_mull, n_lmul, n_subl, Int32.reduceLT, Int32.reduceLE, Int32.reduceAdd, Int32.reduceSub, Int32.reduceMul, Int32.reduceToNatClampNeg, not_false_eq_true, not_true_eq_false, or_false, false_or, or_self, and_self, false_and, true_and, and_false, and_true, true_or, or_true, Nat.reduceAdd, Nat.reduceMul, Nat.reduceLT, Nat.reduceLeDiff, ne_eq, hb]
  refine hv_up (fun _ => fX7_level.eq_2 ..) ?_
  try simp only [↓reduceIte, Nat.reduceEqDiff, Option.bind_some, ao_let, hb]
  try simp (disch := first | omega | assumption) only [↓reduceIte, Nat.reduceEqDiff, Option.bind_some, ao_let, t_le, f_le, t_lt, f_lt, f_eq, u_eq, u_n1, u_n2, n_cl, n_lt, n_le, n_eq, n_ltl, n_llt, n_lel, n_lle, n_eql, n_leq, n_add, n_mul, n_sub, n_addl, n_ladd, n_mull, n_lmul, n_subl, Int32.reduceLT, Int32.reduceLE, Int32.reduceAdd, Int32.reduceSub, Int32.reduceMul, Int32.reduceToNatClampNeg, not_false_eq_true, not_true_eq_false, or_false, false_or, or_self, and_self, false_and, true_and, and_false, and_true, true_or, or_true, Nat.reduceAdd, Nat.reduceMul, Nat.reduceLT, Nat.reduceLeDiff, ne_eq, hb]
  exact hv_some q
def mkC (C : ao_M) (t j p : Nat) : Bool := bt (C (92 + 71 * t + 8 + 6 * j) 6) p
def wvC (C : ao_M) (t j p : Nat) : Int32 := C (92 + 71 * t + 8 + 6 * j + 4) p
/-- the class takes back levels k .. k + m - 1 -/
def cTB (e : Bool) (t k m : Nat) (C : ao_M) : ao_M := fun a i =>
  if a = 14 ∧ i < 26 ∧ e = true then gbv (mkC C t) (wvC C t) (C 14) k m i
  else if i = 6 ∧ 92 + 71 * t + 8 + 6 * k ≤ a ∧ a < 92 + 71 * t + 8 + 6 * (k + m) ∧ (a - (92 + 71 * t + 8)) % 6 = 0 then 0
  else if a = 92 + 71 * t + 6 ∧ i < 26 then C (92 + 71 * t + 8 + 6 * k + 5) i
  else if a = 92 + 71 * t ∧ i = 13 then C (92 + 71 * t + 8 + 6 * k) 10
  else if a = 92 + 71 * t ∧ i = 11 then C (92 + 71 * t + 8 + 6 * k) 11
  else if a = 92 + 71 * t ∧ i = 5 then 0 else C a i
theorem cTB_step {t k m : Nat} {C C1 : ao_M} {e : Bool} (h14 : ∀ i, i < 26 → C1 14 i = if e = true ∧ mkC C t (k + m) i = true then wvC C t (k + m) i else C 14 i) (h6 : C1 (92 + 71 * t + 8 + 6 * (k + m)) 6 = 0) (ho : ∀ a i, ¬ (a = 14 ∧ i < 26) → ¬ (a = 92 + 71 * t + 8 + 6 * (k + m) ∧ i = 6) → C1 a i = C a i) : cTB e t k m C1 = cTB e t k (m + 1) C := by
  funext a i
  unfold cTB
  by_cases e1 : a = 14 ∧ i < 26
  · obtain ⟨rfl, hi⟩ := e1
    by_cases he : e = true
    · simp only [hi, he, and_self, ↓reduceIte]
      rw [gbv_snoc]
      refine gbv_congr m k (fun j h1 h2 => ⟨?_, fun _ => ?_⟩) ?_
      · unfold mkC
        rw [ho _ _ (by omega) (by omega)]
      · unfold wvC
        rw [ho _ _ (by omega) (by omega)]
      · rw [h14 i hi]
        simp [he]
    · have hne : ¬ (True ∧ i < 26 ∧ e = true) := fun x => he x.2.2
      rw [if_neg (fun x => he x.2.2), if_neg (by omega), if_neg (by omega), if_neg (by omega), if_neg (by omega), if_neg (by omega), if_neg (fun x => he x.2.2), if_neg (by omega), if_neg (by omega), if_neg (by omega), if_neg (by omega), if_neg (by omega), h14 i hi, if_neg (fun x => he x.1)]
  · have n1 : ¬ (a = 14 ∧ i < 26 ∧ e = true) := fun x => e1 ⟨x.1, x.2.1⟩
    simp only [if_neg n1]
    by_cases e2 : a = 92 + 71 * t + 8 + 6 * (k + m) ∧ i = 6
    · obtain ⟨rfl, rfl⟩ := e2
      rw [if_neg (by omega), if_neg (by omega), if_neg (by omega), if_neg (by omega), if_neg (by omega), h6, if_pos (by omega)]
    · have e3 : (i = 6 ∧ 92 + 71 * t + 8 + 6 * k ≤ a ∧ a < 92 + 71 * t + 8 + 6 * (k + (m + 1)) ∧ (a - (92 + 71 * t + 8)) % 6 = 0) = (i = 6 ∧ 92 + 71 * t + 8 + 6 * k ≤ a ∧ a < 92 + 71 * t + 8 + 6 * (k + m) ∧ (a - (92 + 71 * t + 8)) % 6 = 0) := propext ⟨fun h => by omega, fun h => by omega⟩
      simp only [e3]
      rw [ho (92 + 71 * t + 8 + 6 * k + 5) i (by omega) (by omega), ho (92 + 71 * t + 8 + 6 * k) 10 (by omega) (by omega), ho (92 + 71 * t + 8 + 6 * k) 11 (by omega) (by omega), ho a i e1 e2]
/-- R is a runner -/
abbrev RnS (ρ : ao_H) (R : Nat) : Prop := ρ.2.1 R = 17 ∧ ρ.2.1 (R + 5) = 0 ∧ ρ.2.1 (R + 6) = 0 ∧ ρ.2.1 (R + 7) = 5 ∧ ρ.2.1 (R + 68) = 0 ∧ ρ.2.1 (R + 69) = 0 ∧ ρ.2.1 (R + 70) = 0 ∧ ρ.2.2.1 (R + 5) = 64 ∧ ρ.2.2.1 (R + 6) = 26 ∧ ρ.2.2.1 (R + 7) = 10 ∧ ρ.2.2.1 (R + 68) = 10 ∧ ρ.2.2.1 (R + 69) = 10 ∧ ρ.2.2.1 (R + 70) = 200 ∧
  ρ.1 R 4 = some (R + 5) ∧ ρ.1 R 6 = some (R + 6) ∧ ρ.1 R 7 = some (R + 7) ∧ ρ.1 R 9 = some (R + 68) ∧ ρ.1 R 10 = some (R + 69) ∧ ρ.1 R 12 = some (R + 70)
theorem RnS_of {ρ : ao_H} (hb : ShB ρ) {t : Nat} (ht : t < 6) : RnS ρ (92 + 71 * t) := by
  obtain ⟨a0, a1, a2, a3, a4, a5, a6, a7, a8, a9, a10, a11, a12, a13, a14, a15, a16, a17, a18, a19, _⟩ := hb
  exact ⟨a1 t ht, a2 t ht, a3 t ht, a4 t ht, a5 t ht, a6 t ht, a7 t ht, a8 t ht, a9 t ht, a10 t ht, a11 t ht, a12 t ht, a13 t ht, a14 t ht, a15 t ht, a16 t ht, a17 t ht, a18 t ht, a19 t ht⟩
theorem c_backL {ρ : ao_H} (hc : ShA ρ) (hb : ShB ρ) {t k : Nat} (ht : t < 6) (hk : k < 10) (e : Bool) : ∀ (m : Nat) (C : ao_M), k + m ≤ 10 → decide (C 12 5 = 3 ∨ C 12 5 = 4) = e →
    hv (fun n => fX2_takeBack n 7 12 (92 + 71 * t) (nI k) (nI (k + m) - 1) 0 C ρ) (fun C' => C' = cTB e t k m C) := by
  have hR := RnS_of hb ht
  intro m
  induction m with
  | zero =>
    intro C hm he
    refine hv_up (fun _ => fX2_takeBack.eq_2 ..) ?_
    simp only [Nat.add_zero, ↓reduceIte, Nat.reduceEqDiff, pre_lt k (by omega), hR]
    refine hv_bind (P := fun y => y = (92 + 71 * t + 8 + 6 * k, C)) (c_level hb ht hk C rfl) ?_
    rintro _ rfl
    have hl := LvS_of hb ht hk
    try simp only [↓reduceIte, Nat.reduceEqDiff, Option.bind_some, ao_let, hR, hl, gX7_setBackTo, cp_n]
    try simp (disch := first | omega | assumption) only [↓reduceIte, Nat.reduceEqDiff, Option.bind_some, ao_let, t_le, f_le, t_lt, f_lt, f_eq, u_eq, u_n1, u_n2, n_cl, n_lt, n_le, n_eq, n_ltl, n_llt, n_lel, n_lle, n_eql, n_leq, n_add, n_mul, n_sub, n_addl, n_ladd, n_mull, n_lmul, n_subl, Int32.reduceLT, Int32.reduceLE, Int32.reduceAdd, Int32.reduceSub, Int32.reduceMul, Int32.reduceToNatClampNeg, not_false_eq_true, not_true_eq_false, or_false, false_or, or_self, and_self, false_and, true_and, and_false, and_true, true_or, or_true, Nat.reduceAdd, Nat.reduceMul, Nat.reduceLT, Nat.reduceLeDiff, ne_eq, hR, hl, gX7_setBackTo, cp_n]
    refine hv_some ?_
    funext a i
    simp only [cTB, ao_u, ao_cp, gbv, Nat.add_zero, Nat.zero_add, Nat.zero_le, true_and]
    clear hR hl hb hc he
    by_cases e1 : a = 92 + 71 * t
    · subst e1
      grind (splits := 20)
    · by_cases e2 : a = 92 + 71 * t + 6
      · subst e2
        grind (splits := 20)
      · grind (splits := 20)
  | succ m ih =>
    intro C hm he
    have hl := LvS_of hb ht (show k + m < 10 by omega)
    refine hv_up (fun _ => fX2_takeBack.eq_2 ..) ?_
    try simp only [↓reduceIte, Nat.reduceEqDiff, Option.bind_some, ao_let, hR]
    try simp (disch := first | omega | assumption) only [↓reduceIte, Nat.reduceEqDiff, Option.bind_some, ao_let, t_le, f_le, t_lt, f_lt, f_eq, u_eq, u_n1, u_n2, n_cl, n_lt, n_le, n_eq, n_ltl, n_llt, n_lel, n_lle, n_eql, n_leq, n_add, n_mul, n_sub, n_addl, n_ladd, n_mull, n_lmul, n_subl, Int32.reduceLT, Int32.reduceLE, Int32.reduceAdd, Int32.reduceSub, Int32.reduceMul, Int32.reduceToNatClampNeg, not_false_eq_true, not_true_eq_false, or_false, false_or, or_self, and_self, false_and, true_and, and_false, and_true, true_or, or_true, Nat.reduceAdd, Nat.reduceMul, Nat.reduceLT, Nat.reduceLeDiff, ne_eq, hR]
    refine hv_bind (P := fun y => y = (92 + 71 * t + 8 + 6 * (k + m), C)) (c_level hb ht (by omega) C rfl) ?_
    rintro _ rfl
    try simp only [↓reduceIte, Nat.reduceEqDiff, Option.bind_some, ao_let, hc]
    try simp (disch := first | omega | assumption) only [↓reduceIte, Nat.reduceEqDiff, Option.bind_some, ao_let, t_le, f_le, t_lt, f_lt, f_eq, u_eq, u_n1, u_n2, n_cl, n_lt, n_le, n_eq, n_ltl, n_llt, n_lel, n_lle, n_eql, n_leq, n_add, n_mul, n_sub, n_addl, n_ladd, n_mull, n_lmul, n_subl, Int32.reduceLT, Int32.reduceLE, Int32.reduceAdd, Int32.reduceSub, Int32.reduceMul, Int32.reduceToNatClampNeg, not_false_eq_true, not_true_eq_false, or_false, false_or, or_self, and_self, false_and, true_and, and_false, and_true, true_or, or_true, Nat.reduceAdd, Nat.reduceMul, Nat.reduceLT, Nat.reduceLeDiff, ne_eq, hc]
    refine hv_bind (P := fun y => y = (if C 12 5 = 3 ∨ C 12 5 = 4 then 1 else 0, C)) (cv_eager hc C rfl) ?_
    rintro _ rfl
    dsimp only
    by_cases h34 : C 12 5 = 3 ∨ C 12 5 = 4
    · have he' : e = true := by rw [← he]; simp [h34]
      subst he'
      simp only [if_pos h34, show ((1 : Int32) = 0) = False from by decide, ↓reduceIte]
      refine hv_bind (P := fun y => y = _) (c_give hc hl (by omega) rfl) ?_
      rintro _ rfl
      refine hv_up (fun _ => fX2_takeBack.eq_2 ..) ?_
      try simp only [↓reduceIte, Nat.reduceEqDiff, Option.bind_some, ao_let, hl, gX3_forgetWrites]
      try simp (disch := first | omega | assumption) only [↓reduceIte, Nat.reduceEqDiff, Option.bind_some, ao_let, t_le, f_le, t_lt, f_lt, f_eq, u_eq, u_n1, u_n2, n_cl, n_lt, n_le, n_eq, n_ltl, n_llt, n_lel, n_lle, n_eql, n_leq, n_add, n_mul, n_sub, n_addl, n_ladd, n_mull, n_lmul, n_subl, Int32.reduceLT, Int32.reduceLE, Int32.reduceAdd, Int32.reduceSub, Int32.reduceMul, Int32.reduceToNatClampNeg, not_false_eq_true, not_true_eq_false, or_false, false_or, or_self, and_self, false_and, true_and, and_false, and_true, true_or, or_true, Nat.reduceAdd, Nat.reduceMul, Nat.reduceLT, Nat.reduceLeDiff, ne_eq, hl, gX3_forgetWrites]
      rw [dec_m1]
      refine hv_mono (ih _ (by omega) ?_) ?_
      · rw [← he]
        simp (disch := omega) only [u_n1]
        simp
      · rintro _ rfl
        refine cTB_step ?_ ?_ ?_
        · intro i hi
          rw [u_n1 (by omega)]
          simp [mkC, wvC, hi]
        · rw [u_eq]
        · intro a i h1 h2
          rw [u_ne (by omega), if_neg (fun x => h1 ⟨x.1, x.2.1⟩)]
    · have he' : e = false := by rw [← he]; simp [h34]
      subst he'
      simp only [if_neg h34, ↓reduceIte]
      refine hv_up (fun _ => fX2_takeBack.eq_2 ..) ?_
      try simp only [↓reduceIte, Nat.reduceEqDiff, Option.bind_some, ao_let, hl, gX3_forgetWrites]
      try simp (disch := first | omega | assumption) only [↓reduceIte, Nat.reduceEqDiff, Option.bind_some, ao_let, t_le, f_le, t_lt, f_lt, f_eq, u_eq, u_n1, u_n2, n_cl, n_lt, n_le, n_eq, n_ltl, n_llt, n_lel, n_lle, n_eql, n_leq, n_add, n_mul, n_sub, n_addl, n_ladd, n_mull, n_lmul, n_subl, Int32.reduceLT, Int32.reduceLE, Int32.reduceAdd, Int32.reduceSub, Int32.reduceMul, Int32.reduceToNatClampNeg, not_false_eq_true, not_true_eq_false, or_false, false_or, or_self, and_self, false_and, true_and, and_false, and_true, true_or, or_true, Nat.reduceAdd, Nat.reduceMul, Nat.reduceLT, Nat.reduceLeDiff, ne_eq, hl, gX3_forgetWrites]
      rw [dec_m1]
      refine hv_mono (ih _ (by omega) ?_) ?_
      · rw [← he]
        simp (disch := omega) only [u_n1]
      · rintro _ rfl
        refine cTB_step ?_ ?_ ?_
        · intro i hi
          rw [u_n1 (by omega)]
          simp
        · rw [u_eq]
        · intro a i h1 h2
          rw [u_ne (by omega)]
theorem c_back {ρ : ao_H} (hc : ShA ρ) (hb : ShB ρ) {t k dp : Nat} (ht : t < 6) (hk : k < dp) (hd : dp ≤ 10) (C : ao_M) (h8 : C (92 + 71 * t) 8 = nI dp) {Q : ao_M → Prop} (q : Q (cTB (decide (C 12 5 = 3 ∨ C 12 5 = 4)) t k (dp - k) C)) : hv (fun n => gX2_takeBack n 12 (92 + 71 * t) (nI k) C ρ) Q := by
  have hR := RnS_of hb ht
  unfold gX2_takeBack
  refine hv_up (fun _ => fX2_takeBack.eq_2 ..) ?_
  simp only [↓reduceIte, hR, ao_let, h8]
  refine hv_mono ?_ (fun y (hy : y = cTB (decide (C 12 5 = 3 ∨ C 12 5 = 4)) t k (dp - k) C) => hy ▸ q)
  have := c_backL hc hb ht (show k < 10 by omega) (decide (C 12 5 = 3 ∨ C 12 5 = 4)) (dp - k) C (by omega) rfl
  rw [show k + (dp - k) = dp by omega] at this
  exact this
