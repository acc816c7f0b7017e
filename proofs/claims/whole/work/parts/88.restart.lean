set_option linter.unusedSimpArgs false
set_option linter.unusedVariables false
/-! ===== restart ===== -/
theorem nest_at {N : Ns} {op : Fn} {len : Nat} : ∀ (l : List (Nat × Nat)) (k : Nat), chd N op len l → k < nl l → ∃ b, b < len ∧ op b = 16 ∧ nl (N b) = k ∧ (∀ e, e ∈ (0, b) :: N b → e ∈ l) := by
  intro l
  induction l with
  | nil => intro k _ h; simp [nl] at h
  | cons e l ih =>
    intro k hc hk
    obtain ⟨e1, e2⟩ := e
    obtain ⟨h1, h2, h3, h4⟩ := hc
    dsimp only at h1 h2 h3
    rcases h3 with ⟨rfl, h5⟩ | ⟨rfl, h5⟩ | ⟨rfl, h5⟩
    · rw [nl_c0] at hk
      by_cases q : k = nl l
      · exact ⟨e2, h2, h5, by rw [← h1, q], fun x hx => by rw [← h1] at hx; exact hx⟩
      · obtain ⟨b, c1, c2, c3, c4⟩ := ih k h4 (by omega)
        exact ⟨b, c1, c2, c3, fun x hx => List.mem_cons_of_mem _ (c4 x hx)⟩
    · rw [nl_c1] at hk
      obtain ⟨b, c1, c2, c3, c4⟩ := ih k h4 hk
      exact ⟨b, c1, c2, c3, fun x hx => List.mem_cons_of_mem _ (c4 x hx)⟩
    · rw [nl_c2] at hk
      obtain ⟨b, c1, c2, c3, c4⟩ := ih k h4 hk
      exact ⟨b, c1, c2, c3, fun x hx => List.mem_cons_of_mem _ (c4 x hx)⟩
theorem ins_16 {op fi se d : Fn} {len : Nat} {φ : Nat → Nat} {N : Ns} {H K : Nat → Nat} {i : Nat} (h : ins op fi se d len φ N H K i) (e : op i = 16) : d (3 * φ i) = 15 ∧ H i = 0 ∧ φ (i + 1) = φ i + 1 ∧ N (i + 1) = (0, i) :: N i ∧ H (i + 1) = 0 ∧ K i < K (i + 1) ∧ ∃ B r m, se i = nI B ∧ d (3 * φ i + 2) = nI (φ B) ∧ B ≤ len ∧ N B = N i ∧ H B = 0 ∧ d (3 * φ i + 1) = nI (2 * r + m) ∧ m ≤ 1 ∧ (nl (N i) = 0 ∨ m = 0 ∨ 1 ≤ r) ∧
    (fi i = -1 ∧ r = 0 ∨ ∃ T, fi i = nI T ∧ r = φ T + 1 ∧ T ≤ len ∧ N T = (0, i) :: N i ∧ H T = 0) := by
  unfold ins at h
  simp (config := { decide := true }) only [e, false_and, false_or, true_and, or_false] at h
  exact h
/-- a thread within levels, its code at hand -/
def Th2 (C : ao_M) (D : ao_M) (rc t : Nat) (op fi se d : Fn) (len : Nat) (φ : Nat → Nat) (N : Ns) (H : Nat → Nat) : Prop := ∃ a, a ≤ len ∧ Pos C D t d φ a ∧ Stk C D t (H a) ∧ Ctl C D t fi se len φ N (N a) ∧ 1 ≤ nl (N a) ∧ Ins C D rc t (nl (N a)) ∧ D 556 t = nI (nl (N a)) ∧ C (92 + 71 * t) 14 = D 560 t ∧ C (92 + 71 * t) 16 = D 564 t
theorem cat_congr {hl hl' : Nat → List Int32} : ∀ (n : Nat), (∀ j, j < n → hl j = hl' j) → cat hl n = cat hl' n := by
  intro n
  induction n with
  | zero => intro _; rfl
  | succ n ih =>
    intro h
    rw [cat, cat, ih (fun j hj => h j (by omega)), h n (by omega)]
theorem cat_mono {hl : Nat → List Int32} : ∀ (m n : Nat), ∃ l, cat hl (n + m) = cat hl n ++ l := by
  intro m
  induction m with
  | zero => intro n; exact ⟨[], by simp⟩
  | succ m ih =>
    intro n
    obtain ⟨l, e⟩ := ih n
    exact ⟨l ++ hl (n + m), by rw [← Nat.add_assoc, cat, e, List.append_assoc]⟩
/-- what is held, when levels from k on have let go of theirs and level k has begun anew -/
theorem Held_cut {C D C' D' : ao_M} {t dp k : Nat} (h : Held C D t dp) (hk : k < dp) (h0 : D' 584 (t * 12 + k) = 0) (hj : ∀ j, j < k → D' 584 (t * 12 + j) = D 584 (t * 12 + j)) (hh : ∀ j i, j < k → i < 200 → D' 583 ((t * 12 + j) * 200 + i) = D 583 ((t * 12 + j) * 200 + i)) (h10 : ∀ j, j ≤ k → C' (92 + 71 * t + 8 + 6 * j) 10 = C (92 + 71 * t + 8 + 6 * j) 10) (h13 : C' (92 + 71 * t) 13 = C (92 + 71 * t + 8 + 6 * k) 10) (h70 : ∀ i, C' (92 + 71 * t + 70) i = C (92 + 71 * t + 70) i) : Held C' D' t (k + 1) := by
  obtain ⟨hl, a, b, c⟩ := h
  have ec : ∀ j, j ≤ k → cat (fun j => if j < k then hl j else []) j = cat hl j := fun j hj => cat_congr j (fun i hi => if_pos (by omega))
  refine ⟨fun j => if j < k then hl j else [], ?_, ?_, ?_⟩
  · intro j hj'
    by_cases q : j < k
    · obtain ⟨a1, a2, a3, a4⟩ := a j (by omega)
      simp only [q, ↓reduceIte]
      refine ⟨a1, by rw [hj j q]; exact a2, ?_, fun i hi => by rw [hh j i q (by omega)]; exact a4 i hi⟩
      rw [h10 j (by omega), a3, ec j (by omega)]
    · obtain rfl : j = k := by omega
      obtain ⟨a1, a2, a3, a4⟩ := a j (by omega)
      simp only [q, ↓reduceIte]
      refine ⟨by simp, by rw [h0]; rfl, ?_, fun i hi => absurd hi (by simp)⟩
      rw [h10 j (by omega), a3, ec j (by omega)]
  · obtain ⟨a1, a2, a3, a4⟩ := a k hk
    rw [h13, a3, cat, if_neg (by omega), List.append_nil, ec k (by omega)]
  · intro i hi h200
    have e : cat (fun j => if j < k then hl j else []) (k + 1) = cat hl k := by
      rw [cat, if_neg (by omega), List.append_nil, ec k (by omega)]
    obtain ⟨l, el⟩ := cat_mono (hl := hl) (dp - k) k
    rw [show k + (dp - k) = dp by omega] at el
    have hi' : i < (cat hl k).length := by rw [← e]; exact hi
    rw [h70, c i (by rw [el]; simp; omega) h200]
    simp only [e, el]
    rw [List.getElem_append_left hi']
/-- the class's numbers before a level goes on at its begin -/
def rC (e : Bool) (t k m : Nat) (C : ao_M) : ao_M := ao_u (ao_u (ao_u (ao_u (cTB e t k m C) (92 + 71 * t + 8 + 6 * k) 3 0) (92 + 71 * t + 8 + 6 * k) 4 0) (92 + 71 * t + 8 + 6 * k) 9 0) (92 + 71 * t) 8 (nI (k + 1))
theorem rC_n {e : Bool} {t k m a i : Nat} {C : ao_M} (h : a ≠ 14) (h6 : i ≠ 6 ∨ a < 92 + 71 * t + 8 + 6 * k ∨ 92 + 71 * t + 8 + 6 * (k + m) ≤ a ∨ (a - (92 + 71 * t + 8)) % 6 ≠ 0) (hr : a ≠ 92 + 71 * t + 6) (hR : a ≠ 92 + 71 * t ∨ i ≠ 13 ∧ i ≠ 11 ∧ i ≠ 5 ∧ i ≠ 8) (hl : a ≠ 92 + 71 * t + 8 + 6 * k ∨ i ≠ 3 ∧ i ≠ 4 ∧ i ≠ 9) : rC e t k m C a i = C a i := by
  unfold rC
  rw [u_ne (by omega), u_ne (by omega), u_ne (by omega), u_ne (by omega)]
  exact cTB_n h h6 hr (by omega)
theorem rst_fin {C D C3 D3 C4 D4 : ao_M} {t k dp b rc len : Nat} {e : Bool} {op fi se d : Fn} {φ : Nat → Nat} {N : Ns} {H : Nat → Nat} (ht : t < 6) (hk : k < dp) (hd : dp ≤ 10) (hI : Ins C D rc t dp)
    (hC3 : ∀ a i, 92 + 71 * t ≤ a → a < 92 + 71 * t + 71 → C3 a i = if k = 0 ∧ a = 92 + 71 * t ∧ i = 16 then C 12 6 else rC e t k (dp - k) C a i) (hD3 : ∀ a i, 550 ≤ a → a ≤ 584 → D3 a i = if k = 0 ∧ a = 564 ∧ i = t then D 537 65 else dTBd e t k (dp - k) D a i)
    (hclk : C3 13 4 = D3 537 26) (hnow : C 12 6 = D 537 65) (h16 : k ≠ 0 → C (92 + 71 * t) 16 = D 564 t) (hb1 : b + 1 ≤ len) (hN : N (b + 1) = (0, b) :: N b) (hH : H (b + 1) = 0) (hφ : φ (b + 1) = φ b + 1) (hφ6 : φ b + 1 < 6000) (hnl : nl (N b) = k) (hns : ns (N b) ≤ 10) (hnt : nt (N b) ≤ 10) (hE : ∀ x ∈ (0, b) :: N b, Ent C D t fi se len φ N x)
    (hEb : ∀ x ∈ N b, nl (N x.2) ≤ 10 ∧ ns (N x.2) ≤ 10 ∧ nt (N x.2) ≤ 10 ∧ (x.1 = 0 → nl (N x.2) < k))
    (cF : ∀ a i, ¬ (a = 92 + 71 * t ∧ (i = 3 ∨ i = 14 ∨ i = 17)) → C4 a i = C3 a i) (c3 : C4 (92 + 71 * t) 3 = nI (b + 1)) (c14 : C4 (92 + 71 * t) 14 = C3 13 4)
    (dF : ∀ a i, ¬ (a = 552 ∨ a = 557 ∨ a = 558 ∨ a = 556 ∨ a = 560 ∨ a = 559) ∨ i ≠ t → (a ≠ 576 ∨ i ≠ t * 12 + k) → D4 a i = D3 a i) (d52 : D4 552 t = D3 570 (t * 12 + k)) (d76 : D4 576 (t * 12 + k) = 0) (d57 : D4 557 t = D3 573 (t * 12 + k)) (d58 : D4 558 t = D3 574 (t * 12 + k)) (d56 : D4 556 t = nI (k + 1)) (d60 : D4 560 t = D3 537 26) :
    Th2 C4 D4 rc t op fi se d len φ N H ∧ Regs C4 D4 t := by
  obtain ⟨I8, IL, IH⟩ := hI
  have eb := (hE (0, b) (by simp)).1 rfl
  dsimp only at eb
  rw [hnl] at eb
  obtain ⟨b1, b2, b3, b4, b5, b6, b7, b8⟩ := eb
  have dn : ∀ a i, 550 ≤ a → a ≤ 584 → a ≠ 564 → a ≠ 577 → a ≠ 578 → a ≠ 584 → a ≠ 553 → a ≠ 555 → D3 a i = D a i := by
    intro a i h1 h2 h3 h4 h5 h6 h7 h8
    rw [hD3 _ _ h1 h2, if_neg (by omega), dTBd, if_neg (by omega), dTB_n (by omega) (by omega) (by omega)]
  -- cells of the class
  have cn : ∀ a i, 92 + 71 * t < a → a < 92 + 71 * t + 71 → a ≠ 92 + 71 * t + 6 → (i ≠ 6 ∨ a < 92 + 71 * t + 8 + 6 * k ∨ 92 + 71 * t + 8 + 6 * dp ≤ a ∨ (a - (92 + 71 * t + 8)) % 6 ≠ 0) → (a ≠ 92 + 71 * t + 8 + 6 * k ∨ i ≠ 3 ∧ i ≠ 4 ∧ i ≠ 9) → C4 a i = C a i := by
    intro a i h1 h2 h3 h4 h5
    rw [cF _ _ (by omega), hC3 _ _ (by omega) h2, if_neg (by omega), rC_n (by omega) (by omega) h3 (by omega) h5]
  have cz : ∀ i, i = 3 ∨ i = 4 ∨ i = 6 ∨ i = 9 → C4 (92 + 71 * t + 8 + 6 * k) i = 0 := by
    intro i hi
    rw [cF _ _ (by omega), hC3 _ _ (by omega) (by omega), if_neg (by omega), rC, u_n1 (by omega)]
    rcases hi with rfl | rfl | rfl | rfl
    · rw [u_n2 (by omega), u_n2 (by omega), u_eq]
    · rw [u_n2 (by omega), u_eq]
    · rw [u_n2 (by omega), u_n2 (by omega), u_n2 (by omega), cTB_6 (by omega) (by omega)]
    · rw [u_eq]
  have cR : ∀ i, i ≠ 13 → i ≠ 11 → i ≠ 5 → i ≠ 8 → i ≠ 3 → i ≠ 14 → i ≠ 17 → i ≠ 16 → C4 (92 + 71 * t) i = C (92 + 71 * t) i := by
    intro i h1 h2 h3 h4 h5 h6 h7 h8
    rw [cF _ _ (by omega), hC3 _ _ (by omega) (by omega), if_neg (by omega), rC_n (by omega) (by omega) (by omega) (by omega) (by omega)]
  have c8 : C4 (92 + 71 * t) 8 = nI (k + 1) := by
    rw [cF _ _ (by omega), hC3 _ _ (by omega) (by omega), if_neg (by omega), rC, u_eq]
  have cTa := @cTB_a e t k (dp - k) C
  have c5 : C4 (92 + 71 * t) 5 = 0 := by
    rw [cF _ _ (by omega), hC3 _ _ (by omega) (by omega), if_neg (by omega), rC, u_n2 (by omega), u_n1 (by omega), u_n1 (by omega), u_n1 (by omega), cTa.2.2]
  have c11 : C4 (92 + 71 * t) 11 = nI (nt (N b)) := by
    rw [cF _ _ (by omega), hC3 _ _ (by omega) (by omega), if_neg (by omega), rC, u_n2 (by omega), u_n1 (by omega), u_n1 (by omega), u_n1 (by omega), cTa.2.1, b2]
  have c13 : C4 (92 + 71 * t) 13 = C (92 + 71 * t + 8 + 6 * k) 10 := by
    rw [cF _ _ (by omega), hC3 _ _ (by omega) (by omega), if_neg (by omega), rC, u_n2 (by omega), u_n1 (by omega), u_n1 (by omega), u_n1 (by omega), cTa.1]
  have c16 : C4 (92 + 71 * t) 16 = if k = 0 then C 12 6 else C (92 + 71 * t) 16 := by
    rw [cF _ _ (by omega), hC3 _ _ (by omega) (by omega)]
    by_cases e0 : k = 0
    · rw [if_pos (by omega), if_pos e0]
    · rw [if_neg (by omega), if_neg e0, rC_n (by omega) (by omega) (by omega) (by omega) (by omega)]
  have cg : ∀ i, i < 26 → C4 (92 + 71 * t + 6) i = C (92 + 71 * t + 8 + 6 * k + 5) i := by
    intro i hi
    rw [cF _ _ (by omega), hC3 _ _ (by omega) (by omega), if_neg (by omega), rC, u_n1 (by omega), u_n1 (by omega), u_n1 (by omega), u_n1 (by omega), cTB_g hi]
  -- cells of the reference
  have d4 : ∀ a i, 550 ≤ a → a ≤ 584 → a ≠ 564 → a ≠ 577 → a ≠ 578 → a ≠ 584 → a ≠ 553 → a ≠ 555 → (¬ (a = 552 ∨ a = 557 ∨ a = 558 ∨ a = 556 ∨ a = 560 ∨ a = 559) ∨ i ≠ t) → (a ≠ 576 ∨ i ≠ t * 12 + k) → D4 a i = D a i := by
    intro a i h1 h2 h3 h4 h5 h6 h7 h8 h9 h10
    rw [dF _ _ h9 h10, dn _ _ h1 h2 h3 h4 h5 h6 h7 h8]
  have d578 : ∀ j p, j < 12 → p < 26 → D4 578 ((t * 12 + j) * 26 + p) = if k ≤ j ∧ j < dp then 0 else D 578 ((t * 12 + j) * 26 + p) := by
    intro j p hj hp
    rw [dF _ _ (by omega) (by omega), hD3 _ _ (by omega) (by omega), if_neg (by omega), dTBd, if_neg (by omega)]
    by_cases q : k ≤ j ∧ j < dp
    · rw [if_pos q, dTB_78 (by omega) (by omega) hp]
    · rw [if_neg q, dTB_n (by omega) (by omega) (by omega)]
  have d577 : ∀ j p, j < 12 → p < 26 → D4 577 ((t * 12 + j) * 26 + p) = if k ≤ j ∧ j < dp then 0 else D 577 ((t * 12 + j) * 26 + p) := by
    intro j p hj hp
    rw [dF _ _ (by omega) (by omega), hD3 _ _ (by omega) (by omega), if_neg (by omega), dTBd]
    by_cases q : k ≤ j ∧ j < dp
    · rw [if_pos q, if_pos (by omega)]
    · rw [if_neg q, if_neg (by omega), dTB_n (by omega) (by omega) (by omega)]
  have d584 : ∀ j, j < 12 → D4 584 (t * 12 + j) = if k ≤ j ∧ j < dp then 0 else D 584 (t * 12 + j) := by
    intro j hj
    rw [dF _ _ (by omega) (by omega), hD3 _ _ (by omega) (by omega), if_neg (by omega), dTBd, if_neg (by omega)]
    by_cases q : k ≤ j ∧ j < dp
    · rw [if_pos q, dTB_84 (by omega) (by omega)]
    · rw [if_neg q, dTB_n (by omega) (by omega) (by omega)]
  have d553 : ∀ i, i < 26 → D4 553 (t * 26 + i) = D 575 ((t * 12 + k) * 26 + i) := by
    intro i hi
    rw [dF _ _ (by omega) (by omega), hD3 _ _ (by omega) (by omega), if_neg (by omega), dTBd, if_neg (by omega), dTB_53 hi (by omega)]
  have d555 : D4 555 t = 0 := by
    rw [dF _ _ (by omega) (by omega), hD3 _ _ (by omega) (by omega), if_neg (by omega), dTBd, if_neg (by omega), dTB_55]
  have d564 : D4 564 t = if k = 0 then D 537 65 else D 564 t := by
    rw [dF _ _ (by omega) (by omega), hD3 _ _ (by omega) (by omega)]
    by_cases e0 : k = 0
    · rw [if_pos (by omega), if_pos e0]
    · rw [if_neg (by omega), if_neg e0, dTBd, if_neg (by omega), dTB_n (by omega) (by omega) (by omega)]
  refine ⟨⟨b + 1, hb1, ⟨c3, φ b + 1, ?_, hφ6, Or.inl hφ.symm⟩, ?_, ?_, ?_, ?_, ?_, ?_, ?_⟩, ?_⟩
  · rw [d52, dn _ _ (by omega) (by omega) (by omega) (by omega) (by omega) (by omega) (by omega) (by omega)]
    exact b3
  · rw [hH]
    exact ⟨c5, d555, fun i hi => absurd hi (by omega)⟩
  · rw [hN]
    refine ⟨?_, ?_, ?_, ?_⟩
    · rw [nt_c0]; exact c11
    · rw [nt_c0, d58, dn _ _ (by omega) (by omega) (by omega) (by omega) (by omega) (by omega) (by omega) (by omega)]; exact b7
    · rw [ns_c0, d57, dn _ _ (by omega) (by omega) (by omega) (by omega) (by omega) (by omega) (by omega) (by omega)]; exact b6
    · intro x hx
      have hxe := hE x hx
      have hx2 : nl (N x.2) ≤ 10 ∧ ns (N x.2) ≤ 10 ∧ nt (N x.2) ≤ 10 ∧ (x.1 = 0 → nl (N x.2) ≤ k) := by
        rcases List.mem_cons.mp hx with rfl | hx
        · exact ⟨by dsimp only; omega, hns, hnt, fun _ => by dsimp only; omega⟩
        · obtain ⟨h1, h2, h3, h4⟩ := hEb x hx
          exact ⟨h1, h2, h3, fun e => by have := h4 e; omega⟩
      obtain ⟨x1, x2, x3, x4⟩ := hx2
      obtain ⟨y1, y2, y3⟩ := hxe
      refine ⟨fun e0 => ?_, fun e1 => ?_, fun e2 => ?_⟩
      · obtain ⟨z1, z2, z3, z4, z5, z6, z7, z8⟩ := y1 e0
        have := x4 e0
        rw [cn _ _ (by omega) (by omega) (by omega) (by omega) (by omega), cn _ _ (by omega) (by omega) (by omega) (by omega) (by omega)]
        have w : ∀ a, a = 570 ∨ a = 571 ∨ a = 572 ∨ a = 573 ∨ a = 574 → D4 a (t * 12 + nl (N x.2)) = D a (t * 12 + nl (N x.2)) := fun a ha => d4 _ _ (by omega) (by omega) (by omega) (by omega) (by omega) (by omega) (by omega) (by omega) (by omega) (by omega)
        rw [w 570 (by omega), w 571 (by omega), w 572 (by omega), w 573 (by omega), w 574 (by omega), d4 565 _ (by omega) (by omega) (by omega) (by omega) (by omega) (by omega) (by omega) (by omega) (by omega) (by omega)]
        exact ⟨z1, z2, z3, z4, z5, z6, z7, z8⟩
      · rw [d4 565 _ (by omega) (by omega) (by omega) (by omega) (by omega) (by omega) (by omega) (by omega) (by omega) (by omega)]
        exact y2 e1
      · obtain ⟨z1, z2, z3, z4, z5, z6, z7⟩ := y3 e2
        rw [cn _ _ (by omega) (by omega) (by omega) (by omega) (by omega), cn _ _ (by omega) (by omega) (by omega) (by omega) (by omega)]
        have w : ∀ a, a = 566 ∨ a = 567 ∨ a = 568 ∨ a = 569 → D4 a (t * 12 + nt (N x.2)) = D a (t * 12 + nt (N x.2)) := fun a ha => d4 _ _ (by omega) (by omega) (by omega) (by omega) (by omega) (by omega) (by omega) (by omega) (by omega) (by omega)
        rw [w 566 (by omega), w 567 (by omega), w 568 (by omega), w 569 (by omega)]
        exact ⟨z1, z2, z3, z4, z5, z6, z7⟩
  · rw [hN, nl_c0]; omega
  · rw [hN, nl_c0, hnl]
    refine ⟨c8, ?_, ?_⟩
    · intro j hj
      obtain ⟨⟨l1, l2⟩, l3, l4, ⟨ps, vs, ws, l5, l6⟩⟩ := IL j (by omega)
      by_cases q : j < k
      · have e1 : ∀ i, C4 (92 + 71 * t + 8 + 6 * j) i = C (92 + 71 * t + 8 + 6 * j) i := fun i => cn _ _ (by omega) (by omega) (by omega) (by omega) (by omega)
        have e2 : ∀ o i, 1 ≤ o → o ≤ 5 → C4 (92 + 71 * t + 8 + 6 * j + o) i = C (92 + 71 * t + 8 + 6 * j + o) i := fun o i h1 h2 => cn _ _ (by omega) (by omega) (by omega) (by omega) (by omega)
        have d76' : D4 576 (t * 12 + j) = D 576 (t * 12 + j) := d4 _ _ (by omega) (by omega) (by omega) (by omega) (by omega) (by omega) (by omega) (by omega) (by omega) (by omega)
        have dr : ∀ a i, a = 575 ∨ a = 579 ∨ a = 580 ∨ a = 581 ∨ a = 582 → D4 a i = D a i := fun a i ha => d4 _ _ (by omega) (by omega) (by omega) (by omega) (by omega) (by omega) (by omega) (by omega) (by omega) (by omega)
        refine ⟨⟨by rw [e1, d76']; exact l1, by rw [d76']; exact l2⟩, fun i hi => by rw [e2 5 i (by omega) (by omega), dr 575 _ (by omega)]; exact l3 i hi, ⟨fun p hp => by rw [e1]; exact l4.1 p hp, fun p hp => ?_⟩, ps, vs, ws, RdC_mv l5 (e1 _) (e1 _) (fun i => ⟨e2 1 i (by omega) (by omega), e2 2 i (by omega) (by omega), e2 3 i (by omega) (by omega)⟩), RdD_mv l6 (Nat.le_refl _) (fun p hp => ⟨?_, dr _ _ (by omega), dr _ _ (by omega), dr _ _ (by omega)⟩)⟩
        · rw [e1, d578 j p (by omega) hp, if_neg (by omega), e2 4 p (by omega) (by omega), dr 582 _ (by omega)]
          exact l4.2 p hp
        · rw [d577 j p (by omega) hp, if_neg (by omega)]
      · obtain rfl : j = k := by omega
        refine ⟨⟨by rw [cz 9 (by omega), d76], by rw [d76]; exact Or.inl rfl⟩, fun i hi => ?_, ⟨fun p _ => by rw [cz 6 (by omega), bt_0], fun p hp => ?_⟩, [], vs, ws, RdC_nil (cz 3 (by omega)) (cz 4 (by omega)), RdD_nil (fun p hp => ?_)⟩
        · rw [cn _ _ (by omega) (by omega) (by omega) (by omega) (by omega), d4 575 _ (by omega) (by omega) (by omega) (by omega) (by omega) (by omega) (by omega) (by omega) (by omega) (by omega)]
          exact l3 i hi
        · rw [cz 6 (by omega), bt_0, d578 j p (by omega) hp, if_pos (by omega)]
          exact ⟨by simp, fun x => absurd x (by simp)⟩
        · rw [d577 j p (by omega) hp, if_pos (by omega)]
    · refine Held_cut IH hk ?_ ?_ ?_ ?_ c13 ?_
      · rw [d584 k (by omega), if_pos (by omega)]
      · intro j hj
        rw [d584 j (by omega), if_neg (by omega)]
      · intro j i hj hi
        exact d4 _ _ (by omega) (by omega) (by omega) (by omega) (by omega) (by omega) (by omega) (by omega) (by omega) (by omega)
      · intro j hj
        exact cn _ _ (by omega) (by omega) (by omega) (by omega) (by omega)
      · intro i
        exact cn _ _ (by omega) (by omega) (by omega) (by omega) (by omega)
  · rw [hN, nl_c0, hnl]; exact d56
  · rw [c14, d60]; exact hclk
  · rw [c16, d564]
    by_cases e0 : k = 0
    · rw [if_pos e0, if_pos e0]; exact hnow
    · rw [if_neg e0, if_neg e0]; exact h16 e0
  · intro i hi
    rw [cg i hi, d553 i hi]
    exact (IL k hk).2.1 i hi
/-- the last steps of a restart -/
theorem rst_tail {C D C3 D3 : ao_M} {ρ σ : ao_H} {t k dp b rc len : Nat} {e : Bool} {op fi se d : Fn} {φ : Nat → Nat} {N : Ns} {H : Nat → Nat} (ht : t < 6) (hc : ShA ρ) (hb : ShB ρ) (hs : ShD σ) (hk : k < dp) (hd : dp ≤ 10) (hI : Ins C D rc t dp)
    (hC3 : ∀ a i, 92 + 71 * t ≤ a → a < 92 + 71 * t + 71 → C3 a i = if k = 0 ∧ a = 92 + 71 * t ∧ i = 16 then C 12 6 else rC e t k (dp - k) C a i) (hD3 : ∀ a i, 550 ≤ a → a ≤ 584 → D3 a i = if k = 0 ∧ a = 564 ∧ i = t then D 537 65 else dTBd e t k (dp - k) D a i)
    (hclk : C3 13 4 = D3 537 26) (hnow : C 12 6 = D 537 65) (h16 : k ≠ 0 → C (92 + 71 * t) 16 = D 564 t) (hb1 : b + 1 ≤ len) (hN : N (b + 1) = (0, b) :: N b) (hH : H (b + 1) = 0) (hφ : φ (b + 1) = φ b + 1) (hφ6 : φ b + 1 < 6000) (hblen : b < 2000) (hnl : nl (N b) = k) (hns : ns (N b) ≤ 10) (hnt : nt (N b) ≤ 10) (hE : ∀ x ∈ (0, b) :: N b, Ent C D t fi se len φ N x)
    (hEb : ∀ x ∈ N b, nl (N x.2) ≤ 10 ∧ ns (N x.2) ≤ 10 ∧ nt (N x.2) ≤ 10 ∧ (x.1 = 0 → nl (N x.2) < k)) {Q : ao_S → ao_S → Prop}
    (q : ∀ C4 D4, Th2 C4 D4 rc t op fi se d len φ N H → Regs C4 D4 t → (∀ a i, ¬ (a = 92 + 71 * t ∧ (i = 3 ∨ i = 14 ∨ i = 17)) → C4 a i = C3 a i) → C4 (92 + 71 * t) 17 = C3 (92 + 71 * t) 17 + 1 → (∀ a i, ¬ (a = 552 ∨ a = 557 ∨ a = 558 ∨ a = 556 ∨ a = 560 ∨ a = 559) ∨ i ≠ t → (a ≠ 576 ∨ i ≠ t * 12 + k) → D4 a i = D3 a i) → D4 559 t = D3 559 t + 1 → Q (C4, ρ) (D4, σ)) :
    hv (fun n => fX2_restart n 64 12 (92 + 71 * t) (nI k) (92 + 71 * t + 8 + 6 * k) C3 ρ) (fun y => hv (fun n => fX12_restart n 26 537 (nI t) (nI k) D3 σ) (fun w => Q y w)) := by
  have hR := RnS_of hb ht
  have hl := LvS_of hb ht (show k < 10 by omega)
  have eb := (hE (0, b) (by simp)).1 rfl
  dsimp only at eb
  rw [hnl] at eb
  obtain ⟨b1, b2, b3, b4, b5, b6, b7, b8⟩ := eb
  have c8 : C3 (92 + 71 * t + 8 + 6 * k) 8 = nI b := by
    rw [hC3 _ _ (by omega) (by omega), if_neg (by omega), rC_n (by omega) (by omega) (by omega) (by omega) (by omega)]; exact b1
  have dn : ∀ a i, 550 ≤ a → a ≤ 584 → a ≠ 564 → a ≠ 577 → a ≠ 578 → a ≠ 584 → a ≠ 553 → a ≠ 555 → D3 a i = D a i := by
    intro a i h1 h2 h3 h4 h5 h6 h7 h8
    rw [hD3 _ _ h1 h2, if_neg (by omega), dTBd, if_neg (by omega), dTB_n (by omega) (by omega) (by omega)]
  refine hv_up (fun _ => fX2_restart.eq_2 ..) ?_
  try simp only [↓reduceIte, Nat.reduceEqDiff, Option.bind_some, ao_let, hc, hR, hl, c8]
  try simp (disch := first | omega | assumption) only [↓reduceIte, Nat.reduceEqDiff, Option.bind_some, ao_let, t_le, f_le, t_lt, f_lt, f_eq, u_eq, u_n1, u_n2, n_cl, n_lt, n_le, n_eq, n_ltl, n_llt, n_lel, n_lle, n_eql, n_leq, n_add, n_mul, n_sub, n_addl, n_ladd, n_mull, n_lmul, n_subl, Int32.reduceLT, Int32.reduceLE, Int32.reduceAdd, Int32.reduceSub, Int32.reduceMul, Int32.reduceToNatClampNeg, not_false_eq_true, not_true_eq_false, or_false, false_or, or_self, and_self, false_and, true_and, and_false, and_true, true_or, or_true, Nat.reduceAdd, Nat.reduceMul, Nat.reduceLT, Nat.reduceLeDiff, ne_eq, hc, hR, hl, c8]
  refine hv_some ?_
  refine hv_up (fun _ => fX12_restart.eq_2 ..) ?_
  try simp only [↓reduceIte, Nat.reduceEqDiff, Option.bind_some, ao_let, hs, gX12_level]
  try simp (disch := first | omega | assumption) only [↓reduceIte, Nat.reduceEqDiff, Option.bind_some, ao_let, t_le, f_le, t_lt, f_lt, f_eq, u_eq, u_n1, u_n2, n_cl, n_lt, n_le, n_eq, n_ltl, n_llt, n_lel, n_lle, n_eql, n_leq, n_add, n_mul, n_sub, n_addl, n_ladd, n_mull, n_lmul, n_subl, Int32.reduceLT, Int32.reduceLE, Int32.reduceAdd, Int32.reduceSub, Int32.reduceMul, Int32.reduceToNatClampNeg, not_false_eq_true, not_true_eq_false, or_false, false_or, or_self, and_self, false_and, true_and, and_false, and_true, true_or, or_true, Nat.reduceAdd, Nat.reduceMul, Nat.reduceLT, Nat.reduceLeDiff, ne_eq, hs, gX12_level]
  refine hv_some ?_
  refine (fun hfin => q _ _ hfin.1 hfin.2 ?_ ?_ ?_ ?_) (rst_fin (e := e) ht hk hd hI hC3 hD3 hclk hnow h16 hb1 hN hH hφ hφ6 hnl hns hnt hE hEb ?_ ?_ ?_ ?_ ?_ ?_ ?_ ?_ ?_ ?_)
  rotate_left 4
  · intro a i h
    rw [u_ne (by omega), u_ne (by omega), u_ne (by omega)]
  · try simp only [↓reduceIte, Nat.reduceEqDiff, Option.bind_some, ao_let]
    try simp (disch := first | omega | assumption) only [↓reduceIte, Nat.reduceEqDiff, Option.bind_some, ao_let, t_le, f_le, t_lt, f_lt, f_eq, u_eq, u_n1, u_n2, n_cl, n_lt, n_le, n_eq, n_ltl, n_llt, n_lel, n_lle, n_eql, n_leq, n_add, n_mul, n_sub, n_addl, n_ladd, n_mull, n_lmul, n_subl, Int32.reduceLT, Int32.reduceLE, Int32.reduceAdd, Int32.reduceSub, Int32.reduceMul, Int32.reduceToNatClampNeg, not_false_eq_true, not_true_eq_false, or_false, false_or, or_self, and_self, false_and, true_and, and_false, and_true, true_or, or_true, Nat.reduceAdd, Nat.reduceMul, Nat.reduceLT, Nat.reduceLeDiff, ne_eq]
  · try simp only [↓reduceIte, Nat.reduceEqDiff, Option.bind_some, ao_let]
    try simp (disch := first | omega | assumption) only [↓reduceIte, Nat.reduceEqDiff, Option.bind_some, ao_let, t_le, f_le, t_lt, f_lt, f_eq, u_eq, u_n1, u_n2, n_cl, n_lt, n_le, n_eq, n_ltl, n_llt, n_lel, n_lle, n_eql, n_leq, n_add, n_mul, n_sub, n_addl, n_ladd, n_mull, n_lmul, n_subl, Int32.reduceLT, Int32.reduceLE, Int32.reduceAdd, Int32.reduceSub, Int32.reduceMul, Int32.reduceToNatClampNeg, not_false_eq_true, not_true_eq_false, or_false, false_or, or_self, and_self, false_and, true_and, and_false, and_true, true_or, or_true, Nat.reduceAdd, Nat.reduceMul, Nat.reduceLT, Nat.reduceLeDiff, ne_eq]
  · intro a i h1 h2
    simp (disch := omega) only [u_ne]
  · try simp only [↓reduceIte, Nat.reduceEqDiff, Option.bind_some, ao_let]
    try simp (disch := first | omega | assumption) only [↓reduceIte, Nat.reduceEqDiff, Option.bind_some, ao_let, t_le, f_le, t_lt, f_lt, f_eq, u_eq, u_n1, u_n2, n_cl, n_lt, n_le, n_eq, n_ltl, n_llt, n_lel, n_lle, n_eql, n_leq, n_add, n_mul, n_sub, n_addl, n_ladd, n_mull, n_lmul, n_subl, Int32.reduceLT, Int32.reduceLE, Int32.reduceAdd, Int32.reduceSub, Int32.reduceMul, Int32.reduceToNatClampNeg, not_false_eq_true, not_true_eq_false, or_false, false_or, or_self, and_self, false_and, true_and, and_false, and_true, true_or, or_true, Nat.reduceAdd, Nat.reduceMul, Nat.reduceLT, Nat.reduceLeDiff, ne_eq]
  · try simp only [↓reduceIte, Nat.reduceEqDiff, Option.bind_some, ao_let]
    try simp (disch := first | omega | assumption) only [↓reduceIte, Nat.reduceEqDiff, Option.bind_some, ao_let, t_le, f_le, t_lt, f_lt, f_eq, u_eq, u_n1, u_n2, n_cl, n_lt, n_le, n_eq, n_ltl, n_llt, n_lel, n_lle, n_eql, n_leq, n_add, n_mul, n_sub, n_addl, n_ladd, n_mull, n_lmul, n_subl, Int32.reduceLT, Int32.reduceLE, Int32.reduceAdd, Int32.reduceSub, Int32.reduceMul, Int32.reduceToNatClampNeg, not_false_eq_true, not_true_eq_false, or_false, false_or, or_self, and_self, false_and, true_and, and_false, and_true, true_or, or_true, Nat.reduceAdd, Nat.reduceMul, Nat.reduceLT, Nat.reduceLeDiff, ne_eq]
  · try simp only [↓reduceIte, Nat.reduceEqDiff, Option.bind_some, ao_let]
    try simp (disch := first | omega | assumption) only [↓reduceIte, Nat.reduceEqDiff, Option.bind_some, ao_let, t_le, f_le, t_lt, f_lt, f_eq, u_eq, u_n1, u_n2, n_cl, n_lt, n_le, n_eq, n_ltl, n_llt, n_lel, n_lle, n_eql, n_leq, n_add, n_mul, n_sub, n_addl, n_ladd, n_mull, n_lmul, n_subl, Int32.reduceLT, Int32.reduceLE, Int32.reduceAdd, Int32.reduceSub, Int32.reduceMul, Int32.reduceToNatClampNeg, not_false_eq_true, not_true_eq_false, or_false, false_or, or_self, and_self, false_and, true_and, and_false, and_true, true_or, or_true, Nat.reduceAdd, Nat.reduceMul, Nat.reduceLT, Nat.reduceLeDiff, ne_eq]
  · try simp only [↓reduceIte, Nat.reduceEqDiff, Option.bind_some, ao_let]
    try simp (disch := first | omega | assumption) only [↓reduceIte, Nat.reduceEqDiff, Option.bind_some, ao_let, t_le, f_le, t_lt, f_lt, f_eq, u_eq, u_n1, u_n2, n_cl, n_lt, n_le, n_eq, n_ltl, n_llt, n_lel, n_lle, n_eql, n_leq, n_add, n_mul, n_sub, n_addl, n_ladd, n_mull, n_lmul, n_subl, Int32.reduceLT, Int32.reduceLE, Int32.reduceAdd, Int32.reduceSub, Int32.reduceMul, Int32.reduceToNatClampNeg, not_false_eq_true, not_true_eq_false, or_false, false_or, or_self, and_self, false_and, true_and, and_false, and_true, true_or, or_true, Nat.reduceAdd, Nat.reduceMul, Nat.reduceLT, Nat.reduceLeDiff, ne_eq]
  · try simp only [↓reduceIte, Nat.reduceEqDiff, Option.bind_some, ao_let]
    try simp (disch := first | omega | assumption) only [↓reduceIte, Nat.reduceEqDiff, Option.bind_some, ao_let, t_le, f_le, t_lt, f_lt, f_eq, u_eq, u_n1, u_n2, n_cl, n_lt, n_le, n_eq, n_ltl, n_llt, n_lel, n_lle, n_eql, n_leq, n_add, n_mul, n_sub, n_addl, n_ladd, n_mull, n_lmul, n_subl, Int32.reduceLT, Int32.reduceLE, Int32.reduceAdd, Int32.reduceSub, Int32.reduceMul, Int32.reduceToNatClampNeg, not_false_eq_true, not_true_eq_false, or_false, false_or, or_self, and_self, false_and, true_and, and_false, and_true, true_or, or_true, Nat.reduceAdd, Nat.reduceMul, Nat.reduceLT, Nat.reduceLeDiff, ne_eq]
  · try simp only [↓reduceIte, Nat.reduceEqDiff, Option.bind_some, ao_let]
    try simp (disch := first | omega | assumption) only [↓reduceIte, Nat.reduceEqDiff, Option.bind_some, ao_let, t_le, f_le, t_lt, f_lt, f_eq, u_eq, u_n1, u_n2, n_cl, n_lt, n_le, n_eq, n_ltl, n_llt, n_lel, n_lle, n_eql, n_leq, n_add, n_mul, n_sub, n_addl, n_ladd, n_mull, n_lmul, n_subl, Int32.reduceLT, Int32.reduceLE, Int32.reduceAdd, Int32.reduceSub, Int32.reduceMul, Int32.reduceToNatClampNeg, not_false_eq_true, not_true_eq_false, or_false, false_or, or_self, and_self, false_and, true_and, and_false, and_true, true_or, or_true, Nat.reduceAdd, Nat.reduceMul, Nat.reduceLT, Nat.reduceLeDiff, ne_eq]
  · intro a i h
    rw [u_ne (by omega), u_ne (by omega), u_ne (by omega)]
  · try simp only [↓reduceIte, Nat.reduceEqDiff, Option.bind_some, ao_let]
    try simp (disch := first | omega | assumption) only [↓reduceIte, Nat.reduceEqDiff, Option.bind_some, ao_let, t_le, f_le, t_lt, f_lt, f_eq, u_eq, u_n1, u_n2, n_cl, n_lt, n_le, n_eq, n_ltl, n_llt, n_lel, n_lle, n_eql, n_leq, n_add, n_mul, n_sub, n_addl, n_ladd, n_mull, n_lmul, n_subl, Int32.reduceLT, Int32.reduceLE, Int32.reduceAdd, Int32.reduceSub, Int32.reduceMul, Int32.reduceToNatClampNeg, not_false_eq_true, not_true_eq_false, or_false, false_or, or_self, and_self, false_and, true_and, and_false, and_true, true_or, or_true, Nat.reduceAdd, Nat.reduceMul, Nat.reduceLT, Nat.reduceLeDiff, ne_eq]
  · intro a i h1 h2
    simp (disch := omega) only [u_ne]
  · try simp only [↓reduceIte, Nat.reduceEqDiff, Option.bind_some, ao_let]
    try simp (disch := first | omega | assumption) only [↓reduceIte, Nat.reduceEqDiff, Option.bind_some, ao_let, t_le, f_le, t_lt, f_lt, f_eq, u_eq, u_n1, u_n2, n_cl, n_lt, n_le, n_eq, n_ltl, n_llt, n_lel, n_lle, n_eql, n_leq, n_add, n_mul, n_sub, n_addl, n_ladd, n_mull, n_lmul, n_subl, Int32.reduceLT, Int32.reduceLE, Int32.reduceAdd, Int32.reduceSub, Int32.reduceMul, Int32.reduceToNatClampNeg, not_false_eq_true, not_true_eq_false, or_false, false_or, or_self, and_self, false_and, true_and, and_false, and_true, true_or, or_true, Nat.reduceAdd, Nat.reduceMul, Nat.reduceLT, Nat.reduceLeDiff, ne_eq]
