set_option linter.unusedSimpArgs false
set_option linter.unusedVariables false
/-! ===== pieces of code, as both parsers make them ===== -/
abbrev Gv : Type := Nat × List (Bool × Nat) × Nat
abbrev Gh : Type := Nat → Gv
def fc (β : List (Bool × Nat)) : Nat := β.countP (fun e => !e.1)
def isE (x : Int32) : Prop := x = 1 ∨ x = 2 ∨ x = 3 ∨ x = 4 ∨ x = 5 ∨ x = 6 ∨ x = 7 ∨ x = 8 ∨ x = 9
/-- one instruction; G says where the reference has it, within what it lies (tries are true), how high the stack is -/
def okI (op fi se d : Fn) (L : Nat) (G : Gh) (i : Nat) : Prop := ∃ f b h, G i = (f, b, h) ∧ (
  (op i = 1 ∧ d (3 * f) = 0 ∧ d (3 * f + 1) = fi i ∧ G (i + 1) = (f + 1, b, h + 1)) ∨
  (op i = 2 ∧ d (3 * f) = 1 ∧ (∃ r, r < 26 ∧ fi i = nI r ∧ d (3 * f + 1) = nI r) ∧ G (i + 1) = (f + 1, b, h + 1)) ∨
  (op i = 3 ∧ d (3 * f) = 2 ∧ (∃ r, r < 26 ∧ fi i = nI r ∧ d (3 * f + 1) = nI r) ∧ G (i + 1) = (f + 1, b, h + 1)) ∨
  ((op i = 4 ∧ d (3 * f) = 3 ∨ op i = 5 ∧ d (3 * f) = 4 ∨ op i = 6 ∧ d (3 * f) = 5 ∨ op i = 7 ∧ d (3 * f) = 7 ∨ op i = 8 ∧ d (3 * f) = 8) ∧ 2 ≤ h ∧ G (i + 1) = (f + 1, b, h - 1)) ∨
  (op i = 9 ∧ d (3 * f) = 6 ∧ 1 ≤ h ∧ G (i + 1) = (f + 1, b, h)) ∨
  (op i = 10 ∧ d (3 * f) = 9 ∧ (∃ r, r < 26 ∧ fi i = nI r ∧ d (3 * f + 1) = nI r) ∧ h = 1 ∧ G (i + 1) = (f + 1, b, 0)) ∨
  (op i = 11 ∧ d (3 * f) = 10 ∧ (∃ r, r < 26 ∧ fi i = nI r ∧ d (3 * f + 1) = nI r) ∧ h = 1 ∧ G (i + 1) = (f + 1, b, 0)) ∨
  (op i = 12 ∧ d (3 * f) = 12 ∧ h = 0 ∧ ∃ T fT, fi i = nI T ∧ d (3 * f + 1) = nI fT ∧ T ≤ L ∧ G T = (fT, b, 0) ∧ (i < T ∨ ∃ A, T ≤ A ∧ A < i ∧ (∀ j, T ≤ j → j < A → isE (op j)) ∧ op A = 14 ∧ fi A = nI (i + 1) ∧ i + 1 ≤ L)) ∨
  (op i = 13 ∧ d (3 * f) = 11 ∧ h = 1 ∧ G (i + 1) = (f + 1, b, 0) ∧ ∃ T fT, fi i = nI T ∧ d (3 * f + 1) = nI fT ∧ T ≤ L ∧ G T = (fT, b, 0) ∧ i < T) ∨
  (op i = 14 ∧ d (3 * f) = 11 ∧ h = 1 ∧ d (3 * (f + 1)) = 13 ∧ G (i + 1) = (f + 2, b, 0) ∧ ∃ T fT, fi i = nI T ∧ d (3 * f + 1) = nI fT ∧ T ≤ L ∧ G T = (fT, b, 0) ∧ i < T) ∨
  (op i = 15 ∧ d (3 * f) = 14 ∧ h = 1 ∧ G (i + 1) = (f + 1, b, 0)) ∨
  (op i = 16 ∧ d (3 * f) = 15 ∧ h = 0 ∧ G (i + 1) = (f + 1, (false, i) :: b, 0) ∧ ∃ B fB r m, se i = nI B ∧ d (3 * f + 2) = nI fB ∧ B ≤ L ∧ G B = (fB, b, 0) ∧ d (3 * f + 1) = nI (2 * r + m) ∧ m ≤ 1 ∧ (fc b = 0 ∨ m = 0 ∨ 1 ≤ r) ∧
    (fi i = -1 ∧ r = 0 ∨ ∃ T fT, fi i = nI T ∧ r = fT + 1 ∧ T ≤ L ∧ G T = (fT, (false, i) :: b, 0))) ∨
  (op i = 17 ∧ d (3 * f) = 16 ∧ h = 0 ∧ ∃ b0 β B fB, b = (false, b0) :: β ∧ op b0 = 16 ∧ (G b0).2.1 = β ∧ se b0 = nI B ∧ B ≤ L ∧ i < B ∧ G B = (fB, β, 0) ∧ (fB = f + 1 ∨ d (3 * (f + 1)) = 12 ∧ d (3 * (f + 1) + 1) = nI fB)) ∨
  (op i = 18 ∧ d (3 * f) = 17 ∧ h = 0 ∧ 1 ≤ fc b) ∨
  (op i = 19 ∧ d (3 * f) = 18 ∧ h = 0 ∧ 1 ≤ fc b) ∨
  (op i = 20 ∧ d (3 * f) = 19 ∧ h = 1) ∨
  (op i = 21 ∧ d (3 * f) = 20 ∧ h = 0 ∧ G (i + 1) = (f + 1, (true, i) :: b, 0) ∧ ∃ T fT r, fi i = nI T ∧ d (3 * f + 1) = nI fT ∧ se i = nI r ∧ d (3 * f + 2) = nI r ∧ r < 26 ∧ T ≤ L ∧ G T = (fT, b, 0)) ∨
  (op i = 22 ∧ d (3 * f) = 21 ∧ h = 0 ∧ d (3 * (f + 1)) = 12 ∧ ∃ b0 β T fT, b = (true, b0) :: β ∧ (G b0).2.1 = β ∧ fi i = nI T ∧ d (3 * (f + 1) + 1) = nI fT ∧ T ≤ L ∧ i < T ∧ G T = (fT, β, 0)) ∨
  (op i = 0 ∧ d (3 * f) = 15 ∧ d (3 * f + 1) = 1 ∧ h = 0 ∧ 1 ≤ fc b ∧ G (i + 1) = (f + 1, (false, i) :: b, 0)) ∨
  (op i = 0 ∧ d (3 * f) = 16 ∧ h = 0 ∧ ∃ b0 β, b = (false, b0) :: β ∧ op b0 = 0 ∧ (G b0).2.1 = β ∧ G (i + 1) = (f + 1, β, 0)))
/-- within what i lies -/
def posI (op fi : Fn) (L : Nat) (β : List (Bool × Nat)) (G : Gh) (i : Nat) : Prop := ∃ f b h, G i = (f, b, h) ∧ h ≤ 40 ∧ b.length ≤ 10 ∧
  (b = β ∨ ∃ k b0 β0, b = (k, b0) :: β0 ∧ (G b0).2.1 = β0 ∧ b0 < i ∧ (k = true → op b0 = 21) ∧ (k = false → op b0 = 16 ∨ op b0 = 0 ∧ 1 ≤ fc β0)) ∧
  ∀ e ∈ b, e ∈ β ∨ (e.1 = true → ∃ T, fi e.2 = nI T ∧ i < T ∧ T ≤ L)
def kn (op : Fn) (e : Bool × Nat) : Nat × Nat := (if e.1 = true then 2 else if op e.2 = 16 then 0 else 1, e.2)
def Nof (op : Fn) (G : Gh) : Ns := fun i => (G i).2.1.map (kn op)
/-- i is of a loop's condition that ends at A and leads out to X -/
def cnd (op fi : Fn) (L i A X : Nat) : Prop := i ≤ A ∧ A < L ∧ (∀ j, i ≤ j → j < A → isE (op j)) ∧ op A = 14 ∧ fi A = nI X ∧ X ≤ L
noncomputable def kf (op fi : Fn) (L : Nat) : Nat → Nat := fun i => @dite _ (∃ A X, cnd op fi L i A X) (Classical.propDecidable _) (fun h => 2000 * (Classical.choose (Classical.choose_spec h)) - 1001 + i) (fun _ => 2000 * i)
theorem not_E14 : ¬ isE 14 := by unfold isE; decide
theorem cnd_un {op fi : Fn} {L i A X A' X' : Nat} (hL : L ≤ 1000) (h : cnd op fi L i A X) (h' : cnd op fi L i A' X') : A = A' ∧ X = X' := by
  obtain ⟨a1, a2, a3, a4, a5, a6⟩ := h
  obtain ⟨b1, b2, b3, b4, b5, b6⟩ := h'
  have e : A = A' := by
    rcases Nat.lt_trichotomy A A' with q | q | q
    · exact absurd (a4 ▸ b3 A a1 q) not_E14
    · exact q
    · exact absurd (b4 ▸ a3 A' b1 q) not_E14
  subst e
  rw [a5] at b5
  exact ⟨rfl, by rw [n_eq (by omega) (by omega)] at b5; exact b5⟩
theorem kf_c {op fi : Fn} {L i A X : Nat} (hL : L ≤ 1000) (h : cnd op fi L i A X) : kf op fi L i = 2000 * X - 1001 + i := by
  unfold kf
  have hh : ∃ A X, cnd op fi L i A X := ⟨A, X, h⟩
  rw [dif_pos hh]
  have := cnd_un hL h (Classical.choose_spec (Classical.choose_spec hh))
  rw [← this.2]
theorem kf_n {op fi : Fn} {L i : Nat} (h : ¬ ∃ A X, cnd op fi L i A X) : kf op fi L i = 2000 * i := by
  unfold kf
  rw [dif_neg h]
theorem kf_o {op fi : Fn} {L i : Nat} (h1 : ¬ isE (op i)) (h2 : ¬ op i = 14) : kf op fi L i = 2000 * i := by
  refine kf_n ?_
  rintro ⟨A, X, a1, a2, a3, a4, a5, a6⟩
  by_cases e : i = A
  · rw [← e] at a4; exact h2 a4
  · exact h1 (a3 i (Nat.le_refl _) (by omega))
theorem kf_ge {op fi : Fn} {L i : Nat} (hL : L ≤ 1000) (ha : ∀ A X, A < L → op A = 14 → fi A = nI X → X ≤ L → A < X) : 2000 * i ≤ kf op fi L i := by
  by_cases h : ∃ A X, cnd op fi L i A X
  · obtain ⟨A, X, h⟩ := h
    rw [kf_c hL h]
    obtain ⟨a1, a2, a3, a4, a5, a6⟩ := h
    have := ha A X a2 a4 a5 a6
    omega
  · rw [kf_n h]
    exact Nat.le_refl _
theorem kf_e {op fi : Fn} {L i : Nat} (hL : L ≤ 1000) (ha : ∀ A X, A < L → op A = 14 → fi A = nI X → X ≤ L → A < X) (he : isE (op i)) : kf op fi L i < kf op fi L (i + 1) := by
  by_cases h : ∃ A X, cnd op fi L i A X
  · obtain ⟨A, X, h⟩ := h
    rw [kf_c hL h]
    obtain ⟨a1, a2, a3, a4, a5, a6⟩ := h
    have : i ≠ A := fun e => by subst e; exact not_E14 (a4 ▸ he)
    rw [kf_c (i := i + 1) (A := A) (X := X) hL ⟨by omega, a2, fun j h1 h2 => a3 j (by omega) h2, a4, a5, a6⟩]
    omega
  · rw [kf_n h, kf_n]
    · omega
    · rintro ⟨A, X, a1, a2, a3, a4, a5, a6⟩
      refine h ⟨A, X, by omega, a2, fun j h1 h2 => ?_, a4, a5, a6⟩
      by_cases e : j = i
      · rw [e]; exact he
      · exact a3 j (by omega) h2
/-- the whole program -/
theorem cok_of {op fi se d : Fn} {L : Nat} {G : Gh} {m : Nat} (hL : L ≤ 1000) (g0 : G 0 = (0, [], 0)) (gL : G L = (m, [], 0)) (hm : ∀ i, i ≤ L → (G i).1 + 2 < 6000) (hd : d (3 * m) = 22) (h1 : ∀ i, i < L → okI op fi se d L G i) (h2 : ∀ i, i ≤ L → posI op fi L [] G i) : Cok op fi se d L (fun i => (G i).1) (Nof op G) (fun i => (G i).2.2) (kf op fi L) := by
  have inj : ∀ {T T' : Nat}, T ≤ L → T' ≤ L → nI T = nI T' → T = T' := by
    intro T T' a b e
    rwa [n_eq (by omega) (by omega)] at e
  have ha : ∀ A X, A < L → op A = 14 → fi A = nI X → X ≤ L → A < X := by
    intro A X hA ho hf hX
    obtain ⟨f, b, h, -, hc⟩ := h1 A hA
    rw [ho] at hc
    simp (decide := true) only [false_and, false_or, or_false, true_and] at hc
    obtain ⟨-, -, -, -, T, fT, t1, -, t2, -, t3⟩ := hc
    rw [hf] at t1
    have := inj hX t2 t1
    omega
  have fcn : ∀ i, i ≤ L → 1 ≤ fc (G i).2.1 → 1 ≤ nl (Nof op G i) := by
    intro i
    induction i using Nat.strongRecOn with
    | _ i ih =>
      intro hi hf
      obtain ⟨f, b, h, e, -, -, hb, -⟩ := h2 i hi
      have eN : Nof op G i = b.map (kn op) := by unfold Nof; rw [e]
      rw [e] at hf
      dsimp only at hf
      rw [eN]
      rcases hb with hb | ⟨k, b0, β0, hb, h3, h4, h5, h6⟩
      · rw [hb] at hf; simp [fc] at hf
      · rw [hb, List.map_cons]
        have e0 : Nof op G b0 = β0.map (kn op) := by unfold Nof; rw [h3]
        cases k with
        | true =>
          have : 1 ≤ fc β0 := by rw [hb] at hf; simpa [fc] using hf
          have := ih b0 h4 (by omega) (by rw [h3]; exact this)
          rw [e0] at this
          show 1 ≤ nl ((2, b0) :: _)
          rw [nl_c2]; exact this
        | false =>
          rcases h6 rfl with h6 | ⟨h6, h7⟩
          · show 1 ≤ nl ((if op b0 = 16 then 0 else 1, b0) :: _)
            rw [if_pos h6, nl_c0]; omega
          · have := ih b0 h4 (by omega) (by rw [h3]; exact h7)
            rw [e0] at this
            show 1 ≤ nl ((if op b0 = 16 then 0 else 1, b0) :: _)
            rw [if_neg (by rw [h6]; decide), nl_c1]; exact this
  have nf0 : ∀ b : List (Bool × Nat), fc b = 0 → nl (b.map (kn op)) = 0 := by
    intro b
    induction b with
    | nil => intro _; rfl
    | cons e b ih =>
      intro h
      rcases e with ⟨k, b0⟩
      cases k with
      | true =>
        have : fc b = 0 := by simpa [fc] using h
        rw [List.map_cons]
        show nl ((2, b0) :: _) = 0
        rw [nl_c2]; exact ih this
      | false => simp [fc] at h
  have chn' : ∀ i, i ≤ L → chd (Nof op G) op L (Nof op G i) := by
    intro i
    induction i using Nat.strongRecOn with
    | _ i ih =>
      intro hi
      obtain ⟨f, b, h, e, -, -, hb, -⟩ := h2 i hi
      have eN : Nof op G i = b.map (kn op) := by unfold Nof; rw [e]
      rw [eN]
      rcases hb with hb | ⟨k, b0, β0, hb, h3, h4, h5, h6⟩
      · rw [hb]; trivial
      · have e0 : Nof op G b0 = β0.map (kn op) := by unfold Nof; rw [h3]
        rw [hb, List.map_cons]
        refine ⟨e0.symm, by show b0 < L; omega, ?_, by rw [← e0]; exact ih b0 h4 (by omega)⟩
        cases k with
        | true => exact Or.inr (Or.inr ⟨rfl, h5 rfl⟩)
        | false =>
          rcases h6 rfl with h6 | ⟨h6, h7⟩
          · exact Or.inl ⟨if_pos h6, h6⟩
          · refine Or.inr (Or.inl ⟨if_neg (by show ¬ op b0 = 16; rw [h6]; decide), ?_⟩)
            rw [← e0]
            exact fcn b0 (by omega) (by rw [h3]; exact h7)
  have kge : ∀ T, 2000 * T ≤ kf op fi L T := fun T => kf_ge hL ha
  have knx : ∀ i T, ¬ isE (op i) → ¬ op i = 14 → i < T → kf op fi L i < kf op fi L T := by
    intro i T a b c
    rw [kf_o a b]
    have := kge T
    omega
  refine ⟨hL, by show (G 0).1 = 0; rw [g0], by show (G 0).2.1.map _ = _; rw [g0]; rfl, by show (G 0).2.2 = 0; rw [g0], ⟨by show d (3 * (G L).1) = 22; rw [gL]; exact hd, by show (G L).2.1.map _ = _; rw [gL]; rfl, by show (G L).2.2 = 0; rw [gL]⟩, fun i hi => ?_, fun i hi => ?_⟩
  · obtain ⟨f, b, h, e, a1, a2, -, -⟩ := h2 i hi
    refine ⟨hm i hi, ?_, ?_, chn' i hi⟩
    · show ((G i).2.1.map _).length ≤ 10
      rw [e, List.length_map]; exact a2
    · show (G i).2.2 ≤ 40
      rw [e]; exact a1
  · obtain ⟨f, b, h, e, hc⟩ := h1 i hi
    have hp := h2 i (by omega)
    have ef : (G i).1 = f := by rw [e]
    have eb : Nof op G i = b.map (kn op) := by unfold Nof; rw [e]
    have eh : (G i).2.2 = h := by rw [e]
    have gN : ∀ {T fT bT hT}, G T = (fT, bT, hT) → Nof op G T = bT.map (kn op) := fun h => by unfold Nof; rw [h]
    have nE : ∀ {k hh}, isE (op i) → G (i + 1) = (f + k, b, hh) → nxt (fun i => (G i).1) (Nof op G) (fun i => (G i).2.2) (kf op fi L) i k hh := by
      intro k hh he hg
      refine ⟨by show (G (i + 1)).1 = (G i).1 + k; rw [hg, ef], by rw [gN hg, eb], by show (G (i + 1)).2.2 = hh; rw [hg], kf_e hL ha he⟩
    have nO : ∀ {k hh}, ¬ isE (op i) → ¬ op i = 14 → G (i + 1) = (f + k, b, hh) → nxt (fun i => (G i).1) (Nof op G) (fun i => (G i).2.2) (kf op fi L) i k hh := by
      intro k hh he h14 hg
      refine ⟨by show (G (i + 1)).1 = (G i).1 + k; rw [hg, ef], by rw [gN hg, eb], by show (G (i + 1)).2.2 = hh; rw [hg], knx _ _ he h14 (by omega)⟩
    unfold ins
    dsimp only
    rw [ef, eh]
    have nE' : ∀ o : Int32, op i = o → ¬ isE o → ¬ isE (op i) := fun o h g => by rw [h]; exact g
    have n14' : ∀ o : Int32, op i = o → ¬ o = 14 → ¬ op i = 14 := fun o h g => by rw [h]; exact g
    rcases hc with ⟨c0, c1, c2, c3⟩ | ⟨c0, c1, c2, c3⟩ | ⟨c0, c1, c2, c3⟩ | ⟨c0, c1, c2⟩ | ⟨c0, c1, c2, c3⟩ | ⟨c0, c1, c2, c3, c4⟩ | ⟨c0, c1, c2, c3, c4⟩ | ⟨c0, c1, c2, T, fT, c3, c4, c5, c6, c7⟩ | ⟨c0, c1, c2, c3, T, fT, c4, c5, c6, c7, c8⟩ | ⟨c0, c1, c2, c3, c4, T, fT, c5, c6, c7, c8, c9⟩ | ⟨c0, c1, c2, c3⟩ | ⟨c0, c1, c2, c3, B, fB, r, mm, c4, c5, c6, c7, c8, c9, c10, c11⟩ | ⟨c0, c1, c2, b0, β, B, fB, c3, c4, c5, c6, c7, c8, c9, c10⟩ | ⟨c0, c1, c2, c3⟩ | ⟨c0, c1, c2, c3⟩ | ⟨c0, c1, c2⟩ | ⟨c0, c1, c2, c3, T, fT, r, c4, c5, c6, c7, c8, c9, c10⟩ | ⟨c0, c1, c2, c3, b0, β, T, fT, c4, c5, c6, c7, c8, c9, c10⟩ | ⟨c0, c1, c2, c3, c4, c5⟩ | ⟨c0, c1, c2, b0, β, c3, c4, c5, c6⟩
    · exact Or.inl ⟨c0, c1, c2, nE (by rw [c0]; unfold isE; decide) c3⟩
    · exact Or.inr (Or.inl ⟨c0, c1, c2, nE (by rw [c0]; unfold isE; decide) c3⟩)
    · exact Or.inr (Or.inr (Or.inl ⟨c0, c1, c2, nE (by rw [c0]; unfold isE; decide) c3⟩))
    · exact Or.inr (Or.inr (Or.inr (Or.inl ⟨c0, c1, nE (by rcases c0 with c | c | c | c | c <;> rw [c.1] <;> unfold isE <;> decide) c2⟩)))
    · exact Or.inr (Or.inr (Or.inr (Or.inr (Or.inl ⟨c0, c1, c2, nE (by rw [c0]; unfold isE; decide) c3⟩))))
    · exact Or.inr (Or.inr (Or.inr (Or.inr (Or.inr (Or.inl ⟨c0, c1, c2, c3, nO (by rw [c0]; unfold isE; decide) (by rw [c0]; decide) c4⟩)))))
    · exact Or.inr (Or.inr (Or.inr (Or.inr (Or.inr (Or.inr (Or.inl ⟨c0, c1, c2, c3, nO (by rw [c0]; unfold isE; decide) (by rw [c0]; decide) c4⟩))))))
    · refine Or.inr (Or.inr (Or.inr (Or.inr (Or.inr (Or.inr (Or.inr (Or.inl ⟨c0, c1, c2, T, c3, ?_, c5, ?_, ?_, ?_⟩)))))))
      · try dsimp only
        rw [c6]; exact c4
      · rw [gN c6, eb]
      · try dsimp only
        rw [c6]
      · have o1 : ¬ isE (op i) := by rw [c0]; unfold isE; decide
        have o2 : ¬ op i = 14 := by rw [c0]; decide
        rcases c7 with c7 | ⟨A, q1, q2, q3, q4, q5, q6⟩
        · exact knx _ _ o1 o2 c7
        · rw [kf_o o1 o2, kf_c hL (A := A) (X := i + 1) ⟨q1, by omega, q3, q4, q5, q6⟩]
          omega
    · refine Or.inr (Or.inr (Or.inr (Or.inr (Or.inr (Or.inr (Or.inr (Or.inr (Or.inl ⟨c0, c1, c2, nO (by rw [c0]; unfold isE; decide) (by rw [c0]; decide) c3, T, c4, ?_, c6, ?_, ?_, ?_⟩))))))))
      · try dsimp only
        rw [c7]; exact c5
      · rw [gN c7, eb]
      · try dsimp only
        rw [c7]
      · exact knx _ _ (by rw [c0]; unfold isE; decide) (by rw [c0]; decide) c8
    · refine Or.inr (Or.inr (Or.inr (Or.inr (Or.inr (Or.inr (Or.inr (Or.inr (Or.inr (Or.inl ⟨c0, c1, c2, c3, ?_, ?_, ?_, T, c5, ?_, c7, ?_, ?_, ?_⟩)))))))))
      · try dsimp only
        rw [c4]
      · rw [gN c4, eb]
      · try dsimp only
        rw [c4]
      · try dsimp only
        rw [c8]; exact c6
      · rw [gN c8, eb]
      · try dsimp only
        rw [c8]
      · rw [kf_c hL (A := i) (X := T) ⟨by omega, hi, fun j a b => by omega, c0, c5, c7⟩]
        have := kge T
        omega
    · exact Or.inr (Or.inr (Or.inr (Or.inr (Or.inr (Or.inr (Or.inr (Or.inr (Or.inr (Or.inr (Or.inl ⟨c0, c1, c2, nO (by rw [c0]; unfold isE; decide) (by rw [c0]; decide) c3⟩))))))))))
    · refine Or.inr (Or.inr (Or.inr (Or.inr (Or.inr (Or.inr (Or.inr (Or.inr (Or.inr (Or.inr (Or.inr (Or.inl ⟨c0, c1, c2, ?_, ?_, ?_, ?_, B, r, mm, c4, ?_, c6, ?_, ?_, c8, c9, ?_, ?_⟩)))))))))))
      · try dsimp only
        rw [c3]
      · rw [gN c3, eb, List.map_cons]
        show (if op i = 16 then 0 else 1, i) :: _ = _
        rw [if_pos c0]
      · try dsimp only
        rw [c3]
      · exact knx _ _ (by rw [c0]; unfold isE; decide) (by rw [c0]; decide) (by omega)
      · try dsimp only
        rw [c7]; exact c5
      · rw [gN c7, eb]
      · try dsimp only
        rw [c7]
      · rcases c10 with c | c | c
        · left; rw [eb]; exact nf0 b c
        · right; left; exact c
        · right; right; exact c
      · rcases c11 with c | ⟨T, fT, t1, t2, t3, t4⟩
        · exact Or.inl c
        · refine Or.inr ⟨T, t1, by rw [t4]; exact t2, t3, ?_, by rw [t4]⟩
          rw [gN t4, eb, List.map_cons]
          show (if op i = 16 then 0 else 1, i) :: _ = _
          rw [if_pos c0]
    · refine Or.inr (Or.inr (Or.inr (Or.inr (Or.inr (Or.inr (Or.inr (Or.inr (Or.inr (Or.inr (Or.inr (Or.inr (Or.inl ⟨c0, c1, c2, b0, B, ?_, c6, c7, ?_, ?_, ?_, ?_⟩))))))))))))
      · rw [eb, c3, List.map_cons]
        show (if op b0 = 16 then 0 else 1, b0) :: _ = (0, b0) :: (G b0).2.1.map (kn op)
        rw [if_pos c4, c5]
      · rw [gN c9]
        show _ = (G b0).2.1.map (kn op)
        rw [c5]
      · try dsimp only
        rw [c9]
      · exact knx _ _ (by rw [c0]; unfold isE; decide) (by rw [c0]; decide) c8
      · try dsimp only
        rw [c9]; exact c10
    · exact Or.inr (Or.inr (Or.inr (Or.inr (Or.inr (Or.inr (Or.inr (Or.inr (Or.inr (Or.inr (Or.inr (Or.inr (Or.inr (Or.inl ⟨c0, c1, c2, fcn i (by omega) (by rw [e]; exact c3)⟩)))))))))))))
    · exact Or.inr (Or.inr (Or.inr (Or.inr (Or.inr (Or.inr (Or.inr (Or.inr (Or.inr (Or.inr (Or.inr (Or.inr (Or.inr (Or.inr (Or.inl ⟨c0, c1, c2, fcn i (by omega) (by rw [e]; exact c3)⟩))))))))))))))
    · refine Or.inr (Or.inr (Or.inr (Or.inr (Or.inr (Or.inr (Or.inr (Or.inr (Or.inr (Or.inr (Or.inr (Or.inr (Or.inr (Or.inr (Or.inr (Or.inl ⟨c0, c1, c2, ?_⟩)))))))))))))))
      intro b0 hb0 T hT hTL
      rw [eb, List.mem_map] at hb0
      obtain ⟨x, x1, x2⟩ := hb0
      obtain ⟨f', b', h', e', -, -, -, hq⟩ := hp
      rw [e] at e'
      cases e'
      rcases x with ⟨k, b1⟩
      have kt : k = true ∧ b1 = b0 := by
        cases k with
        | true => exact ⟨rfl, (Prod.mk.inj x2).2⟩
        | false =>
          have := (Prod.mk.inj x2).1
          simp at this
          split at this <;> omega
      obtain ⟨rfl, rfl⟩ := kt
      rcases hq _ x1 with q | q
      · exact absurd q (by simp)
      · obtain ⟨T', t1, t2, t3⟩ := q rfl
        have : T = T' := inj hTL t3 (by rw [← hT, ← t1])
        subst this
        exact knx _ _ (by rw [c0]; unfold isE; decide) (by rw [c0]; decide) t2
    · refine Or.inr (Or.inr (Or.inr (Or.inr (Or.inr (Or.inr (Or.inr (Or.inr (Or.inr (Or.inr (Or.inr (Or.inr (Or.inr (Or.inr (Or.inr (Or.inr (Or.inl ⟨c0, c1, c2, ?_, ?_, ?_, ?_, T, r, c4, ?_, c6, c7, c8, c9, ?_, ?_⟩))))))))))))))))
      · try dsimp only
        rw [c3]
      · rw [gN c3, eb, List.map_cons]; rfl
      · try dsimp only
        rw [c3]
      · exact knx _ _ (by rw [c0]; unfold isE; decide) (by rw [c0]; decide) (by omega)
      · try dsimp only
        rw [c10]; exact c5
      · rw [gN c10, eb]
      · try dsimp only
        rw [c10]
    · refine Or.inr (Or.inr (Or.inr (Or.inr (Or.inr (Or.inr (Or.inr (Or.inr (Or.inr (Or.inr (Or.inr (Or.inr (Or.inr (Or.inr (Or.inr (Or.inr (Or.inr (Or.inl ⟨c0, c1, c2, c3, b0, T, ?_, c6, ?_, c8, ?_, ?_, ?_⟩)))))))))))))))))
      · rw [eb, c4, List.map_cons]
        show (2, b0) :: _ = (2, b0) :: (G b0).2.1.map (kn op)
        rw [c5]
      · try dsimp only
        rw [c10]; exact c7
      · rw [gN c10]
        show _ = (G b0).2.1.map (kn op)
        rw [c5]
      · try dsimp only
        rw [c10]
      · exact knx _ _ (by rw [c0]; unfold isE; decide) (by rw [c0]; decide) c9
    · refine Or.inr (Or.inr (Or.inr (Or.inr (Or.inr (Or.inr (Or.inr (Or.inr (Or.inr (Or.inr (Or.inr (Or.inr (Or.inr (Or.inr (Or.inr (Or.inr (Or.inr (Or.inr (Or.inl ⟨c0, c1, c2, c3, fcn i (by omega) (by rw [e]; exact c4), ?_, ?_, ?_, ?_⟩))))))))))))))))))
      · try dsimp only
        rw [c5]
      · rw [gN c5, eb, List.map_cons]
        show (if op i = 16 then 0 else 1, i) :: _ = _
        rw [if_neg (by rw [c0]; decide)]
      · try dsimp only
        rw [c5]
      · exact knx _ _ (by rw [c0]; unfold isE; decide) (by rw [c0]; decide) (by omega)
    · refine Or.inr (Or.inr (Or.inr (Or.inr (Or.inr (Or.inr (Or.inr (Or.inr (Or.inr (Or.inr (Or.inr (Or.inr (Or.inr (Or.inr (Or.inr (Or.inr (Or.inr (Or.inr (Or.inr ⟨c0, c1, c2, ?_, ?_, ?_, b0, ?_, ?_⟩))))))))))))))))))
      · try dsimp only
        rw [c6]
      · try dsimp only
        rw [c6]
      · exact knx _ _ (by rw [c0]; unfold isE; decide) (by rw [c0]; decide) (by omega)
      · rw [eb, c3, List.map_cons]
        show (if op b0 = 16 then 0 else 1, b0) :: _ = (1, b0) :: (G b0).2.1.map (kn op)
        rw [if_neg (by rw [c4]; decide), c5]
      · rw [gN c6]
        show _ = (G b0).2.1.map (kn op)
        rw [c5]
