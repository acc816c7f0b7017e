set_option linter.unusedSimpArgs false
set_option linter.unusedVariables false
/-! ===== the code of each kind of statement ===== -/
def Rw (n : Nat) (P : Prop) : Prop := P
theorem if0_sg {C D : ao_M} {G1 G2 : Gh} {l l1 l2 m m1 m2 : Nat} {β : List (Bool × Nat)} (hb : β.length ≤ 10) (h1 : Sg Tr C D G1 l l1 m m1 β) (e1 : G1 l1 = (m1, β, 1)) (h2 : Sg Tr C D G2 (l1 + 1) l2 (m1 + 1) m2 β) (e2 : G2 (l1 + 1) = (m1 + 1, β, 0)) (e3 : G2 l2 = (m2, β, 0)) (c1 : C 9 l1 = 13) (c2 : C 10 l1 = nI l2) (d1 : D 541 (3 * m1) = 11) (d2 : D 541 (3 * m1 + 1) = nI m2) : ∃ G, G l = G1 l ∧ G l2 = (m2, β, 0) ∧ Sg Tr C D G l l2 m m2 β := by
  have n1 := h1.1
  have n2 := h2.1
  have hone : Sg (fun _ _ _ _ L G' => l2 ≤ L ∧ G' l2 = (m2, β, 0)) C D (one l1 (m1, β, 1) (m1 + 1, β, 0)) l1 (l1 + 1) m1 (m1 + 1) β := Sg_st hb (by omega) (by omega) (fun op fi se d L G' k1 k2 k3 k4 k5 k6 k7 x => ⟨m1, β, 1, k6, by
    refine Or.inr (Or.inr (Or.inr (Or.inr (Or.inr (Or.inr (Or.inr (Or.inr (Or.inl ⟨k2.trans c1, ?_, rfl, k7, l2, m2, k3.trans c2, ?_, x.1, x.2, by omega⟩))))))))
    · rw [k5 _ (by omega) (by omega)]; exact d1
    · rw [k5 _ (by omega) (by omega)]; exact d2⟩)
  have hx := Sg_app (Sg_X h1 (fun _ _ _ _ _ _ _ => trivial)) (Sg_app hone (Sg_X h2 (fun _ _ _ _ _ _ _ => trivial)) (by rw [one_r, e2])) (by rw [e1, glue_lt (by omega), one_l])
  refine ⟨_, ?_, ?_, Sg_close hx (fun op fi se d L G' a b c g => ⟨a, ?_⟩)⟩
  · by_cases q : l < l1
    · rw [glue_lt q]
    · have : l = l1 := by omega
      subst this
      rw [glue_ge (Nat.le_refl _), glue_lt (by omega), one_l, e1]
  · rw [glue_ge (by omega), glue_ge (by omega), e3]
  · rw [g l2 (by omega) (Nat.le_refl _), glue_ge (by omega), glue_ge (by omega), e3]
theorem if1_sg {C D : ao_M} {G1 G2 G3 : Gh} {l l1 l2 l3 m m1 m2 m3 : Nat} {β : List (Bool × Nat)} (hb : β.length ≤ 10) (h1 : Sg Tr C D G1 l l1 m m1 β) (e1 : G1 l1 = (m1, β, 1)) (h2 : Sg Tr C D G2 (l1 + 1) l2 (m1 + 1) m2 β) (e2 : G2 (l1 + 1) = (m1 + 1, β, 0)) (e3 : G2 l2 = (m2, β, 0)) (h3 : Sg Tr C D G3 (l2 + 1) l3 (m2 + 1) m3 β) (e4 : G3 (l2 + 1) = (m2 + 1, β, 0)) (e5 : G3 l3 = (m3, β, 0))
    (c1 : C 9 l1 = 13) (c2 : C 10 l1 = nI (l2 + 1)) (d1 : D 541 (3 * m1) = 11) (d2 : D 541 (3 * m1 + 1) = nI (m2 + 1)) (c3 : C 9 l2 = 12) (c4 : C 10 l2 = nI l3) (d3 : D 541 (3 * m2) = 12) (d4 : D 541 (3 * m2 + 1) = nI m3) : ∃ G, G l = G1 l ∧ G l3 = (m3, β, 0) ∧ Sg Tr C D G l l3 m m3 β := by
  have n1 := h1.1
  have n2 := h2.1
  have n3 := h3.1
  have hone : Sg (fun _ _ _ _ L G' => l3 ≤ L ∧ G' (l2 + 1) = (m2 + 1, β, 0) ∧ G' l3 = (m3, β, 0)) C D (one l1 (m1, β, 1) (m1 + 1, β, 0)) l1 (l1 + 1) m1 (m1 + 1) β := Sg_st hb (by omega) (by omega) (fun op fi se d L G' k1 k2 k3 k4 k5 k6 k7 x => ⟨m1, β, 1, k6, by
    refine Or.inr (Or.inr (Or.inr (Or.inr (Or.inr (Or.inr (Or.inr (Or.inr (Or.inl ⟨k2.trans c1, ?_, rfl, k7, l2 + 1, m2 + 1, k3.trans c2, ?_, by have := x.1; omega, x.2.1, by omega⟩))))))))
    · rw [k5 _ (by omega) (by omega)]; exact d1
    · rw [k5 _ (by omega) (by omega)]; exact d2⟩)
  have htwo : Sg (fun _ _ _ _ L G' => l3 ≤ L ∧ G' (l2 + 1) = (m2 + 1, β, 0) ∧ G' l3 = (m3, β, 0)) C D (one l2 (m2, β, 0) (m2 + 1, β, 0)) l2 (l2 + 1) m2 (m2 + 1) β := Sg_st hb (by omega) (by omega) (fun op fi se d L G' k1 k2 k3 k4 k5 k6 k7 x => ⟨m2, β, 0, k6, by
    refine Or.inr (Or.inr (Or.inr (Or.inr (Or.inr (Or.inr (Or.inr (Or.inl ⟨k2.trans c3, ?_, rfl, l3, m3, k3.trans c4, ?_, x.1, x.2.2, Or.inl (by omega)⟩)))))))
    · rw [k5 _ (by omega) (by omega)]; exact d3
    · rw [k5 _ (by omega) (by omega)]; exact d4⟩)
  have hx := Sg_app (Sg_X h1 (fun _ _ _ _ _ _ _ => trivial)) (Sg_app hone (Sg_app (Sg_X h2 (fun _ _ _ _ _ _ _ => trivial)) (Sg_app htwo (Sg_X h3 (fun _ _ _ _ _ _ _ => trivial)) (by rw [one_r, e4])) (by rw [e3, glue_lt (by omega), one_l])) (by
    rw [one_r]
    by_cases q : l1 + 1 < l2
    · rw [glue_lt q, e2]
    · have q2 : l1 + 1 = l2 := by omega
      rw [q2, glue_ge (Nat.le_refl _), glue_lt (by omega), one_l, ← e3, ← q2, e2])) (by rw [e1, glue_lt (by omega), one_l])
  refine ⟨_, ?_, ?_, Sg_close hx (fun op fi se d L G' a b c g => ⟨a, ?_, ?_⟩)⟩
  · by_cases q : l < l1
    · rw [glue_lt q]
    · have : l = l1 := by omega
      subst this
      rw [glue_ge (Nat.le_refl _), glue_lt (by omega), one_l, e1]
  · rw [glue_ge (by omega), glue_ge (by omega), glue_ge (by omega), glue_ge (by omega), e5]
  · rw [g (l2 + 1) (by omega) (by omega), glue_ge (by omega), glue_ge (by omega), glue_ge (by omega), glue_ge (by omega), e4]
  · rw [g l3 (by omega) (Nat.le_refl _), glue_ge (by omega), glue_ge (by omega), glue_ge (by omega), glue_ge (by omega), e5]
theorem while_sg {C D : ao_M} {G1 G2 : Gh} {l l1 l2 m m1 m2 : Nat} {β : List (Bool × Nat)} (hb : β.length ≤ 10) (h1 : Sg Tr C D G1 l l1 m m1 β) (e0 : G1 l = (m, β, 0)) (e1 : G1 l1 = (m1, β, 1)) (hl : l < l1) (hE : ∀ j, l ≤ j → j < l1 → isE (C 9 j)) (h2 : Sg Tr C D G2 (l1 + 1) l2 (m1 + 2) m2 β) (e2 : G2 (l1 + 1) = (m1 + 2, β, 0)) (e3 : G2 l2 = (m2, β, 0)) (c1 : C 9 l1 = 14) (c2 : C 10 l1 = nI (l2 + 1)) (d1 : D 541 (3 * m1) = 11) (d2 : D 541 (3 * m1 + 1) = nI (m2 + 1)) (d3 : D 541 (3 * (m1 + 1)) = 13) (c3 : C 9 l2 = 12) (c4 : C 10 l2 = nI l) (d4 : D 541 (3 * m2) = 12) (d5 : D 541 (3 * m2 + 1) = nI m) : ∃ G, G l = (m, β, 0) ∧ G (l2 + 1) = (m2 + 1, β, 0) ∧ Sg Tr C D G l (l2 + 1) m (m2 + 1) β := by
  have n1 := h1.1
  have n2 := h2.1
  have hone : Sg (fun op fi _ _ L G' => l2 + 1 ≤ L ∧ G' (l2 + 1) = (m2 + 1, β, 0) ∧ G' l = (m, β, 0) ∧ (∀ j, l ≤ j → j < l1 → isE (op j)) ∧ op l1 = 14 ∧ fi l1 = nI (l2 + 1)) C D (one l1 (m1, β, 1) (m1 + 2, β, 0)) l1 (l1 + 1) m1 (m1 + 2) β := Sg_st hb (by omega) (by omega) (fun op fi se d L G' k1 k2 k3 k4 k5 k6 k7 x => ⟨m1, β, 1, k6, by
    refine Or.inr (Or.inr (Or.inr (Or.inr (Or.inr (Or.inr (Or.inr (Or.inr (Or.inr (Or.inl ⟨k2.trans c1, ?_, rfl, ?_, k7, l2 + 1, m2 + 1, k3.trans c2, ?_, x.1, x.2.1, by omega⟩)))))))))
    · rw [k5 _ (by omega) (by omega)]; exact d1
    · rw [k5 _ (by omega) (by omega)]; exact d3
    · rw [k5 _ (by omega) (by omega)]; exact d2⟩)
  have htwo : Sg (fun op fi _ _ L G' => l2 + 1 ≤ L ∧ G' (l2 + 1) = (m2 + 1, β, 0) ∧ G' l = (m, β, 0) ∧ (∀ j, l ≤ j → j < l1 → isE (op j)) ∧ op l1 = 14 ∧ fi l1 = nI (l2 + 1)) C D (one l2 (m2, β, 0) (m2 + 1, β, 0)) l2 (l2 + 1) m2 (m2 + 1) β := Sg_st hb (by omega) (by omega) (fun op fi se d L G' k1 k2 k3 k4 k5 k6 k7 x => ⟨m2, β, 0, k6, by
    refine Or.inr (Or.inr (Or.inr (Or.inr (Or.inr (Or.inr (Or.inr (Or.inl ⟨k2.trans c3, ?_, rfl, l, m, k3.trans c4, ?_, by omega, x.2.2.1, Or.inr ⟨l1, by omega, by omega, x.2.2.2.1, x.2.2.2.2.1, x.2.2.2.2.2, x.1⟩⟩)))))))
    · rw [k5 _ (by omega) (by omega)]; exact d4
    · rw [k5 _ (by omega) (by omega)]; exact d5⟩)
  have hx := Sg_app (Sg_X h1 (fun _ _ _ _ _ _ _ => trivial)) (Sg_app hone (Sg_app (Sg_X h2 (fun _ _ _ _ _ _ _ => trivial)) htwo (by rw [e3, one_l])) (by
    rw [one_r]
    by_cases q : l1 + 1 < l2
    · rw [glue_lt q, e2]
    · have q2 : l1 + 1 = l2 := by omega
      rw [q2, glue_ge (Nat.le_refl _), one_l, ← e3, ← q2, e2])) (by rw [e1, glue_lt (by omega), one_l])
  refine ⟨_, ?_, ?_, Sg_close hx (fun op fi se d L G' a b c g => ⟨a, ?_, ?_, fun j p q => ?_, ?_, ?_⟩)⟩
  · rw [glue_lt hl, e0]
  · rw [glue_ge (by omega), glue_ge (by omega), glue_ge (by omega), one_r]
  · rw [g (l2 + 1) (by omega) (by omega), glue_ge (by omega), glue_ge (by omega), glue_ge (by omega), one_r]
  · rw [g l (by omega) (by omega), glue_lt hl, e0]
  · rw [(b j p (by omega)).1]; exact hE j p q
  · rw [(b l1 (by omega) (by omega)).1]; exact c1
  · rw [(b l1 (by omega) (by omega)).2.1]; exact c2
/-- the chain at a place directly within b0 -/
theorem pos_in {op fi : Fn} {L : Nat} {β : List (Bool × Nat)} {G : Gh} {i f h b0 : Nat} {k : Bool} (e : G i = (f, (k, b0) :: β, h)) (hh : h ≤ 40) (hb : β.length ≤ 9) (h0 : (G b0).2.1 = β) (hi : b0 < i) (hk : k = true → op b0 = 21 ∧ ∃ T, fi b0 = nI T ∧ i < T ∧ T ≤ L) (hf : k = false → op b0 = 16 ∨ op b0 = 0 ∧ 1 ≤ fc β) : posI op fi L β G i := by
  refine ⟨f, (k, b0) :: β, h, e, hh, by simp; omega, Or.inr ⟨k, b0, β, rfl, h0, hi, fun q => (hk q).1, hf⟩, fun y hy => ?_⟩
  rcases List.mem_cons.mp hy with q | q
  · right
    intro hk'
    rw [q] at hk' ⊢
    exact (hk hk').2
  · exact Or.inl q
theorem level0_sg {C D : ao_M} {G2 : Gh} {l l2 m m2 mm : Nat} {β : List (Bool × Nat)} (hb : β.length ≤ 9) (h2 : Sg Tr C D G2 (l + 1) l2 (m + 1) m2 ((false, l) :: β)) (e2 : G2 (l + 1) = (m + 1, (false, l) :: β, 0)) (e3 : G2 l2 = (m2, (false, l) :: β, 0)) (c1 : C 9 l = 16) (c2 : C 10 l = -1) (c3 : C 11 l = nI (l2 + 1)) (d1 : D 541 (3 * m) = 15) (d2 : D 541 (3 * m + 1) = nI mm) (hmm : mm ≤ 1 ∧ (fc β = 0 ∨ mm = 0)) (d3 : D 541 (3 * m + 2) = nI (m2 + 1)) (c4 : C 9 l2 = 17) (d4 : D 541 (3 * m2) = 16) : ∃ G, G l = (m, β, 0) ∧ G (l2 + 1) = (m2 + 1, β, 0) ∧ Sg Tr C D G l (l2 + 1) m (m2 + 1) β := by
  have n2 := h2.1
  have hone : Sg (fun op fi se _ L G' => l2 + 1 ≤ L ∧ G' (l2 + 1) = (m2 + 1, β, 0) ∧ G' l = (m, β, 0) ∧ op l = 16 ∧ se l = nI (l2 + 1)) C D (one l (m, β, 0) (m + 1, (false, l) :: β, 0)) l (l + 1) m (m + 1) β := Sg_one ⟨Nat.le_refl _, Nat.le_succ _⟩ ⟨Nat.le_succ _, Nat.le_refl _⟩ (fun op fi se d L G' k1 k2 k3 k4 k5 k6 k7 x => ⟨⟨m, β, 0, k6, by
    refine Or.inr (Or.inr (Or.inr (Or.inr (Or.inr (Or.inr (Or.inr (Or.inr (Or.inr (Or.inr (Or.inr (Or.inl ⟨k2.trans c1, ?_, rfl, k7, l2 + 1, m2 + 1, 0, mm, k4.trans c3, ?_, x.1, x.2.1, ?_, hmm.1, ?_, Or.inl ⟨k3.trans c2, rfl⟩⟩)))))))))))
    · rw [k5 _ (by omega) (by omega)]; exact d1
    · rw [k5 _ (by omega) (by omega)]; exact d3
    · rw [k5 _ (by omega) (by omega), Nat.mul_zero, Nat.zero_add]; exact d2
    · rcases hmm.2 with h | h
      · exact Or.inl h
      · exact Or.inr (Or.inl h)⟩, pos_base k6 (by omega) (by omega), pos_in k7 (by omega) hb (by rw [k6]) (by omega) (fun h => nomatch h) (fun _ => Or.inl (k2.trans c1))⟩)
  have htwo : Sg (fun op fi se _ L G' => l2 + 1 ≤ L ∧ G' (l2 + 1) = (m2 + 1, β, 0) ∧ G' l = (m, β, 0) ∧ op l = 16 ∧ se l = nI (l2 + 1)) C D (one l2 (m2, (false, l) :: β, 0) (m2 + 1, β, 0)) l2 (l2 + 1) m2 (m2 + 1) β := Sg_one ⟨Nat.le_refl _, Nat.le_succ _⟩ ⟨Nat.le_succ _, Nat.le_refl _⟩ (fun op fi se d L G' k1 k2 k3 k4 k5 k6 k7 x => ⟨⟨m2, (false, l) :: β, 0, k6, by
    refine Or.inr (Or.inr (Or.inr (Or.inr (Or.inr (Or.inr (Or.inr (Or.inr (Or.inr (Or.inr (Or.inr (Or.inr (Or.inl ⟨k2.trans c4, ?_, rfl, l, β, l2 + 1, m2 + 1, rfl, x.2.2.2.1, by rw [x.2.2.1], x.2.2.2.2, x.1, by omega, x.2.1, Or.inl rfl⟩))))))))))))
    rw [k5 _ (by omega) (by omega)]; exact d4⟩, pos_in k6 (by omega) hb (by rw [x.2.2.1]) (by omega) (fun h => nomatch h) (fun _ => Or.inl x.2.2.2.1), pos_base k7 (by omega) (by omega)⟩)
  have hin : Sg (fun op fi se _ L G' => l2 + 1 ≤ L ∧ G' (l2 + 1) = (m2 + 1, β, 0) ∧ G' l = (m, β, 0) ∧ op l = 16 ∧ se l = nI (l2 + 1)) C D G2 (l + 1) l2 (m + 1) m2 β := Sg_in h2 (fun op fi se d L G' _ x => ⟨trivial, by rw [x.2.2.1], by omega, (fun h => nomatch h), fun _ => Or.inl x.2.2.2.1⟩)
  have hx := Sg_app hone (Sg_app hin htwo (by rw [e3, one_l])) (by
    rw [one_r]
    by_cases q : l + 1 < l2
    · rw [glue_lt q, e2]
    · have q2 : l + 1 = l2 := by omega
      rw [q2, glue_ge (Nat.le_refl _), one_l, ← e3, ← q2, e2])
  refine ⟨_, ?_, ?_, Sg_close hx (fun op fi se d L G' a b c g => ⟨a, ?_, ?_, ?_, ?_⟩)⟩
  · rw [glue_lt (by omega), one_l]
  · rw [glue_ge (by omega), glue_ge (by omega), one_r]
  · rw [g (l2 + 1) (by omega) (by omega), glue_ge (by omega), glue_ge (by omega), one_r]
  · rw [g l (by omega) (by omega), glue_lt (by omega), one_l]
  · rw [(b l (by omega) (by omega)).1]; exact c1
  · rw [(b l (by omega) (by omega)).2.2]; exact c3
theorem levelm_sg {C D : ao_M} {G2 : Gh} {l l2 m m2 : Nat} {β : List (Bool × Nat)} (hb : β.length ≤ 9) (hf : 1 ≤ fc β) (h2 : Sg Tr C D G2 (l + 1) l2 (m + 1) m2 ((false, l) :: β)) (e2 : G2 (l + 1) = (m + 1, (false, l) :: β, 0)) (e3 : G2 l2 = (m2, (false, l) :: β, 0)) (c1 : C 9 l = 0) (d1 : D 541 (3 * m) = 15) (d2 : D 541 (3 * m + 1) = 1) (c4 : C 9 l2 = 0) (d4 : D 541 (3 * m2) = 16) : ∃ G, G l = (m, β, 0) ∧ G (l2 + 1) = (m2 + 1, β, 0) ∧ Sg Tr C D G l (l2 + 1) m (m2 + 1) β := by
  have n2 := h2.1
  have hone : Sg (fun op _ _ _ _ G' => G' l = (m, β, 0) ∧ op l = 0) C D (one l (m, β, 0) (m + 1, (false, l) :: β, 0)) l (l + 1) m (m + 1) β := Sg_one ⟨Nat.le_refl _, Nat.le_succ _⟩ ⟨Nat.le_succ _, Nat.le_refl _⟩ (fun op fi se d L G' k1 k2 k3 k4 k5 k6 k7 x => ⟨⟨m, β, 0, k6, by
    refine Or.inr (Or.inr (Or.inr (Or.inr (Or.inr (Or.inr (Or.inr (Or.inr (Or.inr (Or.inr (Or.inr (Or.inr (Or.inr (Or.inr (Or.inr (Or.inr (Or.inr (Or.inr (Or.inl ⟨k2.trans c1, ?_, ?_, rfl, hf, k7⟩))))))))))))))))))
    · rw [k5 _ (by omega) (by omega)]; exact d1
    · rw [k5 _ (by omega) (by omega)]; exact d2⟩, pos_base k6 (by omega) (by omega), pos_in k7 (by omega) hb (by rw [k6]) (by omega) (fun h => nomatch h) (fun _ => Or.inr ⟨k2.trans c1, hf⟩)⟩)
  have htwo : Sg (fun op _ _ _ _ G' => G' l = (m, β, 0) ∧ op l = 0) C D (one l2 (m2, (false, l) :: β, 0) (m2 + 1, β, 0)) l2 (l2 + 1) m2 (m2 + 1) β := Sg_one ⟨Nat.le_refl _, Nat.le_succ _⟩ ⟨Nat.le_succ _, Nat.le_refl _⟩ (fun op fi se d L G' k1 k2 k3 k4 k5 k6 k7 x => ⟨⟨m2, (false, l) :: β, 0, k6, by
    refine Or.inr (Or.inr (Or.inr (Or.inr (Or.inr (Or.inr (Or.inr (Or.inr (Or.inr (Or.inr (Or.inr (Or.inr (Or.inr (Or.inr (Or.inr (Or.inr (Or.inr (Or.inr (Or.inr ⟨k2.trans c4, ?_, rfl, l, β, rfl, x.2, by rw [x.1], k7⟩))))))))))))))))))
    rw [k5 _ (by omega) (by omega)]; exact d4⟩, pos_in k6 (by omega) hb (by rw [x.1]) (by omega) (fun h => nomatch h) (fun _ => Or.inr ⟨x.2, hf⟩), pos_base k7 (by omega) (by omega)⟩)
  have hin : Sg (fun op _ _ _ _ G' => G' l = (m, β, 0) ∧ op l = 0) C D G2 (l + 1) l2 (m + 1) m2 β := Sg_in h2 (fun op fi se d L G' _ x => ⟨trivial, by rw [x.1], by omega, (fun h => nomatch h), fun _ => Or.inr ⟨x.2, hf⟩⟩)
  have hx := Sg_app hone (Sg_app hin htwo (by rw [e3, one_l])) (by
    rw [one_r]
    by_cases q : l + 1 < l2
    · rw [glue_lt q, e2]
    · have q2 : l + 1 = l2 := by omega
      rw [q2, glue_ge (Nat.le_refl _), one_l, ← e3, ← q2, e2])
  refine ⟨_, ?_, ?_, Sg_close hx (fun op fi se d L G' a b c g => ⟨?_, ?_⟩)⟩
  · rw [glue_lt (by omega), one_l]
  · rw [glue_ge (by omega), glue_ge (by omega), one_r]
  · rw [g l (by omega) (by omega), glue_lt (by omega), one_l]
  · rw [(b l (by omega) (by omega)).1]; exact c1
theorem level1_sg {C D : ao_M} {G2 G3 : Gh} {l l2 l3 m m2 m3 mm : Nat} {β : List (Bool × Nat)} (hb : β.length ≤ 9) (h2 : Sg Tr C D G2 (l + 1) l2 (m + 1) m2 ((false, l) :: β)) (e2 : G2 (l + 1) = (m + 1, (false, l) :: β, 0)) (e3 : G2 l2 = (m2, (false, l) :: β, 0)) (h3 : Sg Tr C D G3 (l2 + 1) l3 (m2 + 2) m3 ((false, l) :: β)) (e4 : G3 (l2 + 1) = (m2 + 2, (false, l) :: β, 0)) (e5 : G3 l3 = (m3, (false, l) :: β, 0))
    (c1 : C 9 l = 16) (c2 : C 10 l = nI (l2 + 1)) (c3 : C 11 l = nI (l3 + 1)) (d1 : D 541 (3 * m) = 15) (d2 : D 541 (3 * m + 1) = nI (2 * (m2 + 2 + 1) + mm)) (hmm : mm ≤ 1) (d3 : D 541 (3 * m + 2) = nI (m3 + 1)) (c4 : C 9 l2 = 17) (d4 : D 541 (3 * m2) = 16) (d5 : D 541 (3 * (m2 + 1)) = 12) (d6 : D 541 (3 * (m2 + 1) + 1) = nI (m3 + 1)) (c5 : C 9 l3 = 17) (d7 : D 541 (3 * m3) = 16) : ∃ G, G l = (m, β, 0) ∧ G (l3 + 1) = (m3 + 1, β, 0) ∧ Sg Tr C D G l (l3 + 1) m (m3 + 1) β := by
  have n2 := h2.1
  have n3 := h3.1
  generalize hX : (fun (op _ se _ : Fn) (L : Nat) (G' : Gh) => l3 + 1 ≤ L ∧ G' (l3 + 1) = (m3 + 1, β, 0) ∧ G' l = (m, β, 0) ∧ op l = 16 ∧ se l = nI (l3 + 1) ∧ G' (l2 + 1) = (m2 + 2, (false, l) :: β, 0) : Xp) = X
  have hone : Sg X C D (one l (m, β, 0) (m + 1, (false, l) :: β, 0)) l (l + 1) m (m + 1) β := by
    subst hX
    refine Sg_one ⟨Nat.le_refl _, Nat.le_succ _⟩ ⟨Nat.le_succ _, Nat.le_refl _⟩ (fun op fi se d L G' k1 k2 k3 k4 k5 k6 k7 x => ⟨⟨m, β, 0, k6, ?_⟩, pos_base k6 (by omega) (by omega), pos_in k7 (by omega) hb (by rw [k6]) (by omega) (fun h => nomatch h) (fun _ => Or.inl (k2.trans c1))⟩)
    have x1 := x.1
    refine Or.inr (Or.inr (Or.inr (Or.inr (Or.inr (Or.inr (Or.inr (Or.inr (Or.inr (Or.inr (Or.inr (Or.inl ⟨k2.trans c1, ?_, rfl, k7, l3 + 1, m3 + 1, m2 + 2 + 1, mm, k4.trans c3, ?_, x.1, x.2.1, ?_, hmm, Or.inr (Or.inr (by omega)), Or.inr ⟨l2 + 1, m2 + 2, k3.trans c2, rfl, by omega, x.2.2.2.2.2⟩⟩)))))))))))
    · rw [k5 _ (by omega) (by omega)]; exact d1
    · rw [k5 _ (by omega) (by omega)]; exact d3
    · rw [k5 _ (by omega) (by omega)]; exact d2
  have htwo : Sg X C D (one l2 (m2, (false, l) :: β, 0) (m2 + 2, (false, l) :: β, 0)) l2 (l2 + 1) m2 (m2 + 2) β := by
    subst hX
    refine Sg_one ⟨Nat.le_refl _, by show m2 ≤ m2 + 2; omega⟩ ⟨by show m2 ≤ m2 + 2; omega, Nat.le_refl _⟩ (fun op fi se d L G' k1 k2 k3 k4 k5 k6 k7 x => ⟨⟨m2, (false, l) :: β, 0, k6, ?_⟩, pos_in k6 (by omega) hb (by rw [x.2.2.1]) (by omega) (fun h => nomatch h) (fun _ => Or.inl x.2.2.2.1), pos_in k7 (by omega) hb (by rw [x.2.2.1]) (by omega) (fun h => nomatch h) (fun _ => Or.inl x.2.2.2.1)⟩)
    refine Or.inr (Or.inr (Or.inr (Or.inr (Or.inr (Or.inr (Or.inr (Or.inr (Or.inr (Or.inr (Or.inr (Or.inr (Or.inl ⟨k2.trans c4, ?_, rfl, l, β, l3 + 1, m3 + 1, rfl, x.2.2.2.1, by rw [x.2.2.1], x.2.2.2.2.1, x.1, by omega, x.2.1, Or.inr ⟨?_, ?_⟩⟩))))))))))))
    · rw [k5 _ (by omega) (by omega)]; exact d4
    · rw [k5 _ (by omega) (by omega)]; exact d5
    · rw [k5 _ (by omega) (by omega)]; exact d6
  have hthr : Sg X C D (one l3 (m3, (false, l) :: β, 0) (m3 + 1, β, 0)) l3 (l3 + 1) m3 (m3 + 1) β := by
    subst hX
    refine Sg_one ⟨Nat.le_refl _, Nat.le_succ _⟩ ⟨Nat.le_succ _, Nat.le_refl _⟩ (fun op fi se d L G' k1 k2 k3 k4 k5 k6 k7 x => ⟨⟨m3, (false, l) :: β, 0, k6, ?_⟩, pos_in k6 (by omega) hb (by rw [x.2.2.1]) (by omega) (fun h => nomatch h) (fun _ => Or.inl x.2.2.2.1), pos_base k7 (by omega) (by omega)⟩)
    refine Or.inr (Or.inr (Or.inr (Or.inr (Or.inr (Or.inr (Or.inr (Or.inr (Or.inr (Or.inr (Or.inr (Or.inr (Or.inl ⟨k2.trans c5, ?_, rfl, l, β, l3 + 1, m3 + 1, rfl, x.2.2.2.1, by rw [x.2.2.1], x.2.2.2.2.1, x.1, by omega, x.2.1, Or.inl rfl⟩))))))))))))
    rw [k5 _ (by omega) (by omega)]; exact d7
  have hin2 : Sg X C D G2 (l + 1) l2 (m + 1) m2 β := by
    subst hX
    exact Sg_in h2 (fun op fi se d L G' _ x => ⟨trivial, by rw [x.2.2.1], by omega, (fun h => nomatch h), fun _ => Or.inl x.2.2.2.1⟩)
  have hin3 : Sg X C D G3 (l2 + 1) l3 (m2 + 2) m3 β := by
    subst hX
    exact Sg_in h3 (fun op fi se d L G' _ x => ⟨trivial, by rw [x.2.2.1], by omega, (fun h => nomatch h), fun _ => Or.inl x.2.2.2.1⟩)
  have j3 : (glue l3 G3 (one l3 (m3, (false, l) :: β, 0) (m3 + 1, β, 0))) (l2 + 1) = (m2 + 2, (false, l) :: β, 0) := by
    by_cases q : l2 + 1 < l3
    · rw [glue_lt q, e4]
    · have q2 : l2 + 1 = l3 := by omega
      rw [q2, glue_ge (Nat.le_refl _), one_l, ← e5, ← q2, e4]
  have h34 := Sg_app hin3 hthr (by rw [e5, one_l])
  have h234 := Sg_app htwo h34 (by rw [one_r, j3])
  have j2 : (glue l2 G2 (glue (l2 + 1) (one l2 (m2, (false, l) :: β, 0) (m2 + 2, (false, l) :: β, 0)) (glue l3 G3 (one l3 (m3, (false, l) :: β, 0) (m3 + 1, β, 0))))) (l + 1) = (m + 1, (false, l) :: β, 0) := by
    by_cases q : l + 1 < l2
    · rw [glue_lt q, e2]
    · have q2 : l + 1 = l2 := by omega
      rw [q2, glue_ge (Nat.le_refl _), glue_lt (by omega), one_l, ← e3, ← q2, e2]
  have h1234 := Sg_app hin2 h234 (by rw [e3, glue_lt (by omega), one_l])
  have hx := Sg_app hone h1234 (by rw [one_r, j2])
  refine ⟨_, ?_, ?_, Sg_close hx (fun op fi se d L G' a b c g => ?_)⟩
  · rw [glue_lt (by omega), one_l]
  · rw [glue_ge (by omega), glue_ge (by omega), glue_ge (by omega), glue_ge (by omega), one_r]
  · subst hX
    refine ⟨a, ?_, ?_, ?_, ?_, ?_⟩
    · rw [g (l3 + 1) (by omega) (by omega), glue_ge (by omega), glue_ge (by omega), glue_ge (by omega), glue_ge (by omega), one_r]
    · rw [g l (by omega) (by omega), glue_lt (by omega), one_l]
    · rw [(b l (by omega) (by omega)).1]; exact c1
    · rw [(b l (by omega) (by omega)).2.2]; exact c3
    · rw [g (l2 + 1) (by omega) (by omega), glue_ge (by omega), glue_ge (by omega), glue_ge (by omega), j3]
theorem try_sg {C D : ao_M} {G2 G3 : Gh} {l l2 l3 m m2 m3 r : Nat} {β : List (Bool × Nat)} (hb : β.length ≤ 9) (h2 : Sg Tr C D G2 (l + 1) l2 (m + 1) m2 ((true, l) :: β)) (e2 : G2 (l + 1) = (m + 1, (true, l) :: β, 0)) (e3 : G2 l2 = (m2, (true, l) :: β, 0)) (h3 : Sg Tr C D G3 (l2 + 1) l3 (m2 + 2) m3 β) (e4 : G3 (l2 + 1) = (m2 + 2, β, 0)) (e5 : G3 l3 = (m3, β, 0))
    (c1 : C 9 l = 21) (c2 : C 10 l = nI (l2 + 1)) (c3 : C 11 l = nI r) (hr : r < 26) (d1 : D 541 (3 * m) = 20) (d2 : D 541 (3 * m + 1) = nI (m2 + 2)) (d3 : D 541 (3 * m + 2) = nI r) (c4 : C 9 l2 = 22) (c5 : C 10 l2 = nI l3) (d4 : D 541 (3 * m2) = 21) (d5 : D 541 (3 * (m2 + 1)) = 12) (d6 : D 541 (3 * (m2 + 1) + 1) = nI m3) : ∃ G, G l = (m, β, 0) ∧ G l3 = (m3, β, 0) ∧ Sg Tr C D G l l3 m m3 β := by
  have n2 := h2.1
  have n3 := h3.1
  generalize hX : (fun (op fi _ _ : Fn) (L : Nat) (G' : Gh) => l3 ≤ L ∧ G' l3 = (m3, β, 0) ∧ G' l = (m, β, 0) ∧ op l = 21 ∧ fi l = nI (l2 + 1) ∧ G' (l2 + 1) = (m2 + 2, β, 0) : Xp) = X
  have hone : Sg X C D (one l (m, β, 0) (m + 1, (true, l) :: β, 0)) l (l + 1) m (m + 1) β := by
    subst hX
    refine Sg_one ⟨Nat.le_refl _, Nat.le_succ _⟩ ⟨Nat.le_succ _, Nat.le_refl _⟩ (fun op fi se d L G' k1 k2 k3 k4 k5 k6 k7 x => ?_)
    have x1 := x.1
    refine ⟨⟨m, β, 0, k6, ?_⟩, pos_base k6 (by omega) (by omega), pos_in k7 (by omega) hb (by rw [k6]) (by omega) (fun _ => ⟨k2.trans c1, l2 + 1, x.2.2.2.2.1, by omega, by omega⟩) (fun h => nomatch h)⟩
    refine Or.inr (Or.inr (Or.inr (Or.inr (Or.inr (Or.inr (Or.inr (Or.inr (Or.inr (Or.inr (Or.inr (Or.inr (Or.inr (Or.inr (Or.inr (Or.inr (Or.inl ⟨k2.trans c1, ?_, rfl, k7, l2 + 1, m2 + 2, r, k3.trans c2, ?_, k4.trans c3, ?_, hr, by omega, x.2.2.2.2.2⟩))))))))))))))))
    · rw [k5 _ (by omega) (by omega)]; exact d1
    · rw [k5 _ (by omega) (by omega)]; exact d2
    · rw [k5 _ (by omega) (by omega)]; exact d3
  have htwo : Sg X C D (one l2 (m2, (true, l) :: β, 0) (m2 + 2, β, 0)) l2 (l2 + 1) m2 (m2 + 2) β := by
    subst hX
    refine Sg_one ⟨Nat.le_refl _, by show m2 ≤ m2 + 2; omega⟩ ⟨by show m2 ≤ m2 + 2; omega, Nat.le_refl _⟩ (fun op fi se d L G' k1 k2 k3 k4 k5 k6 k7 x => ?_)
    have x1 := x.1
    refine ⟨⟨m2, (true, l) :: β, 0, k6, ?_⟩, pos_in k6 (by omega) hb (by rw [x.2.2.1]) (by omega) (fun _ => ⟨x.2.2.2.1, l2 + 1, x.2.2.2.2.1, by omega, by omega⟩) (fun h => nomatch h), pos_base k7 (by omega) (by omega)⟩
    refine Or.inr (Or.inr (Or.inr (Or.inr (Or.inr (Or.inr (Or.inr (Or.inr (Or.inr (Or.inr (Or.inr (Or.inr (Or.inr (Or.inr (Or.inr (Or.inr (Or.inr (Or.inl ⟨k2.trans c4, ?_, rfl, ?_, l, β, l3, m3, rfl, by rw [x.2.2.1], k3.trans c5, ?_, x.1, by omega, x.2.1⟩)))))))))))))))))
    · rw [k5 _ (by omega) (by omega)]; exact d4
    · rw [k5 _ (by omega) (by omega)]; exact d5
    · rw [k5 _ (by omega) (by omega)]; exact d6
  have hin2 : Sg X C D G2 (l + 1) l2 (m + 1) m2 β := by
    subst hX
    refine Sg_in h2 (fun op fi se d L G' hL x => ?_)
    have x1 := x.1
    exact ⟨trivial, by rw [x.2.2.1], by omega, fun _ => ⟨x.2.2.2.1, l2 + 1, x.2.2.2.2.1, by omega, by omega⟩, fun h => nomatch h⟩
  have hin3 : Sg X C D G3 (l2 + 1) l3 (m2 + 2) m3 β := Sg_X h3 (fun _ _ _ _ _ _ _ => trivial)
  have h23 := Sg_app htwo hin3 (by rw [one_r, e4])
  have h123 := Sg_app hin2 h23 (by rw [e3, glue_lt (by omega), one_l])
  have j2 : (glue l2 G2 (glue (l2 + 1) (one l2 (m2, (true, l) :: β, 0) (m2 + 2, β, 0)) G3)) (l + 1) = (m + 1, (true, l) :: β, 0) := by
    by_cases q : l + 1 < l2
    · rw [glue_lt q, e2]
    · have q2 : l + 1 = l2 := by omega
      rw [q2, glue_ge (Nat.le_refl _), glue_lt (by omega), one_l, ← e3, ← q2, e2]
  have hx := Sg_app hone h123 (by rw [one_r, j2])
  refine ⟨_, ?_, ?_, Sg_close hx (fun op fi se d L G' a b c g => ?_)⟩
  · rw [glue_lt (by omega), one_l]
  · rw [glue_ge (by omega), glue_ge (by omega), glue_ge (by omega), e5]
  · subst hX
    refine ⟨a, ?_, ?_, ?_, ?_, ?_⟩
    · rw [g l3 (by omega) (by omega), glue_ge (by omega), glue_ge (by omega), glue_ge (by omega), e5]
    · rw [g l (by omega) (by omega), glue_lt (by omega), one_l]
    · rw [(b l (by omega) (by omega)).1]; exact c1
    · rw [(b l (by omega) (by omega)).2.1]; exact c2
    · rw [g (l2 + 1) (by omega) (by omega), glue_ge (by omega), glue_ge (by omega), glue_ge (by omega), e4]
