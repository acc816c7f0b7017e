set_option linter.unusedSimpArgs false
set_option linter.unusedVariables false
/-! ===== places: class and reference side by side ===== -/
def Rpl (k : Nat) (C : ao_M) (ρ : ao_H) (D : ao_M) (σ : ao_H) : Prop := ∃ f g h, PLc C ρ k f g h ∧ PLd D σ k f g h ∧ chn k h ∧
  (∀ p, p < 26 → C 14 p = D 542 p ∧ C 15 p = D 543 p ∧ C 16 p = D 544 p ∧ C 17 p = D 545 p ∧ C 18 p = D 546 p ∧ (C 16 p = -1 ∨ ∃ t, t < 6 ∧ C 16 p = nI t) ∧ (C 18 p = -1 ∨ ∃ j, j < k ∧ C 18 p = nI j)) ∧ C 13 4 = D 537 26
/-- only places change -/
def FC (C : ao_M) (ρ : ao_H) (C' : ao_M) (ρ' : ao_H) : Prop := HxC C ρ C' ρ' ∧ ∀ x i, (x < 13 ∨ x = 17 ∨ 18 < x) → ¬ PAc ρ x → (∀ z, ρ.2.2.2.1 = some z → x < z) → C' x i = C x i
def FD (D : ao_M) (σ : ao_H) (D' : ao_M) (σ' : ao_H) : Prop := HxD σ σ' ∧ ∀ x i, ¬ (x = 537 ∧ (i = 25 ∨ i = 26)) → (x < 542 ∨ x = 545 ∨ 546 < x) → ¬ PAd σ x → (∀ z, σ.2.2.2.1 = some z → x < z) → D' x i = D x i
theorem FC_trans {C C' C'' : ao_M} {ρ ρ' ρ'' : ao_H} (h : FC C ρ C' ρ') (g : FC C' ρ' C'' ρ'') : FC C ρ C'' ρ'' := by
  refine ⟨HxC_trans h.1 g.1, fun x i hx hp hz => ?_⟩
  obtain ⟨z, z', a1, a2, a3, a4, a5, a6, a8, a9⟩ := h.1
  rw [g.2 x i hx ?_ ?_, h.2 x i hx hp hz]
  · intro e
    rcases a6 x e with e | e
    · exact hp e
    · have := hz z a1; omega
  · intro z'' e
    rw [a2] at e
    have := hz z a1
    have := Option.some.inj e
    omega
theorem FD_trans {D D' D'' : ao_M} {σ σ' σ'' : ao_H} (h : FD D σ D' σ') (g : FD D' σ' D'' σ'') : FD D σ D'' σ'' := by
  refine ⟨HxD_trans h.1 g.1, fun x i hi hx hp hz => ?_⟩
  obtain ⟨z, z', a1, a2, a3, a4, a5, a6, a8, a9⟩ := h.1
  rw [g.2 x i hi hx ?_ ?_, h.2 x i hi hx hp hz]
  · intro e
    rcases a6 x e with e | e
    · exact hp e
    · have := hz z a1; omega
  · intro z'' e
    rw [a2] at e
    have := hz z a1
    have := Option.some.inj e
    omega
theorem PLc_z {C : ao_M} {ρ : ao_H} {k : Nat} {f g h : Nat → Int32} (pc : PLc C ρ k f g h) : ∃ z, ρ.2.2.2.1 = some z ∧ 599 ≤ z := by
  obtain ⟨a, b, c, rm, z, F6, F7, F8, ka, kb, kc, la, lb, lc, m9, m10, h1, h2, h3, ab, ac, bc, da, db, dc, hz, hz9, az, bz, cz, eqs⟩ := pc
  exact ⟨z, hz, hz9⟩
theorem PLd_z {D : ao_M} {σ : ao_H} {k : Nat} {f g h : Nat → Int32} (pd : PLd D σ k f g h) : ∃ z, σ.2.2.2.1 = some z ∧ 599 ≤ z := by
  obtain ⟨a, b, c, rm, z, F6, F7, F8, ka, kb, kc, la, lb, lc, m10, h1, h2, h3, ab, ac, bc, da, db, dc, hz, hz9, az, bz, cz, eqs⟩ := pd
  exact ⟨z, hz, hz9⟩
theorem PLc_n {C : ao_M} {ρ : ao_H} {k : Nat} {f g h : Nat → Int32} (pc : PLc C ρ k f g h) {x : Nat} (hx : (x < 19 ∨ 21 < x) ∧ x < 599) : ¬ PAc ρ x := by
  obtain ⟨a, b, c, rm, z, F6, F7, F8, ka, kb, kc, la, lb, lc, m9, m10, h1, h2, h3, ab, ac, bc, da, db, dc, hz, hz9, az, bz, cz, eqs⟩ := pc
  rintro (e | e | e)
  · rw [F6] at e; have := Option.some.inj e; omega
  · rw [F7] at e; have := Option.some.inj e; omega
  · rw [F8] at e; have := Option.some.inj e; omega
theorem PLd_n {D : ao_M} {σ : ao_H} {k : Nat} {f g h : Nat → Int32} (pd : PLd D σ k f g h) {x : Nat} (hx : (x < 547 ∨ 549 < x) ∧ x < 599) : ¬ PAd σ x := by
  obtain ⟨a, b, c, rm, z, F6, F7, F8, ka, kb, kc, la, lb, lc, m10, h1, h2, h3, ab, ac, bc, da, db, dc, hz, hz9, az, bz, cz, eqs⟩ := pd
  rintro (e | e | e)
  · rw [F6] at e; have := Option.some.inj e; omega
  · rw [F7] at e; have := Option.some.inj e; omega
  · rw [F8] at e; have := Option.some.inj e; omega
/-- the pasts of the class stand where neither they nor their number changed -/
theorem PLc_mv {C C' : ao_M} {ρ : ao_H} {k : Nat} {f g h : Nat → Int32} (pc : PLc C ρ k f g h) (h9 : C' 13 9 = C 13 9) (h10 : C' 13 10 = C 13 10) (hx : ∀ x, (19 ≤ x ∧ x ≤ 21 ∨ 599 ≤ x) → C' x = C x) : PLc C' ρ k f g h := by
  obtain ⟨a, b, c, rm, z, F6, F7, F8, ka, kb, kc, la, lb, lc, m9, m10, h1, h2, h3, ab, ac, bc, da, db, dc, hz, hz9, az, bz, cz, eqs⟩ := pc
  refine ⟨a, b, c, rm, z, F6, F7, F8, ka, kb, kc, la, lb, lc, h9.trans m9, h10.trans m10, h1, h2, h3, ab, ac, bc, da, db, dc, hz, hz9, az, bz, cz, ?_⟩
  intro i hi
  rw [hx a da, hx b db, hx c dc]
  exact eqs i hi
theorem PLd_mv {D D' : ao_M} {σ : ao_H} {k : Nat} {f g h : Nat → Int32} (pd : PLd D σ k f g h) (h10 : D' 537 25 = D 537 25) (hx : ∀ x, (547 ≤ x ∧ x ≤ 549 ∨ 599 ≤ x) → D' x = D x) : PLd D' σ k f g h := by
  obtain ⟨a, b, c, rm, z, F6, F7, F8, ka, kb, kc, la, lb, lc, m10, h1, h2, h3, ab, ac, bc, da, db, dc, hz, hz9, az, bz, cz, eqs⟩ := pd
  refine ⟨a, b, c, rm, z, F6, F7, F8, ka, kb, kc, la, lb, lc, h10.trans m10, h1, h2, h3, ab, ac, bc, da, db, dc, hz, hz9, az, bz, cz, ?_⟩
  intro i hi
  rw [hx a da, hx b db, hx c dc]
  exact eqs i hi
/-- a change on both sides -/
theorem ch_pair {ρ σ : ao_H} {C D : ao_M} {k p : Nat} {v : Int32} (hc : ShA ρ) (hs : ShD σ) (hp : p < 26) (hk : k ≤ 30000) (r : Rpl k C ρ D σ) :
    hv (fun n => gX5_change n 13 (nI p) v C ρ) (fun y => hv (fun n => gX12_remember n 537 (nI p) (ao_u D 542 p v) σ) (fun w => Rpl (k + 1) y.1 y.2 w.1 w.2 ∧ FC C ρ y.1 y.2 ∧ FD D σ w.1 w.2 ∧
      (∀ q, q < 26 → y.1 14 q = (if q = p then v else C 14 q) ∧ y.1 15 q = (if q = p then C 13 4 else C 15 q) ∧ y.1 16 q = C 16 q) ∧ y.1 13 4 = C 13 4)) := by
  obtain ⟨f, g, h, pc, pd, ch, ev, ec⟩ := r
  obtain ⟨z, hz, hz9⟩ := PLc_z pc
  obtain ⟨z', hz', hz9'⟩ := PLd_z pd
  have zc : ∀ x, x < 599 → ∀ y, ρ.2.2.2.1 = some y → x < y := fun x hx y e => by rw [hz] at e; have := Option.some.inj e; omega
  have zd : ∀ x, x < 599 → ∀ y, σ.2.2.2.1 = some y → x < y := fun x hx y e => by rw [hz'] at e; have := Option.some.inj e; omega
  refine c_change hc pc hk hp ?_
  intro C' ρ' pc' xc fc
  have pd1 : PLd (ao_u D 542 p v) σ k f g h := PLd_mv pd (by simp (disch := omega) only [u_n1]) (fun x hx => by funext i; simp (disch := omega) only [u_n1])
  refine d_remember hs pd1 hk hp ?_
  intro D' σ' pd' xd fd
  have nc : ∀ x, (x < 19 ∨ 21 < x) ∧ x < 599 → ¬ PAc ρ' x := fun x hx => PLc_n pc' hx
  have nd : ∀ x, (x < 547 ∨ 549 < x) ∧ x < 599 → ¬ PAd σ' x := fun x hx => PLd_n pd' hx
  have e13 : C' 13 4 = C 13 4 := by
    rw [fc 13 4 (nc 13 (by omega)) (by omega) (zc 13 (by omega))]; simp [chC]
  have e537 : D' 537 26 = D 537 26 := by
    rw [fd 537 26 (nd 537 (by omega)) (zd 537 (by omega))]; simp [chD, ao_u]
  have c14 : ∀ q, C' 14 q = if q = p then v else C 14 q := fun q => by
    rw [fc 14 q (nc 14 (by omega)) (by omega) (zc 14 (by omega))]; simp [chC]
  have c15 : ∀ q, C' 15 q = if q = p then C 13 4 else C 15 q := fun q => by
    rw [fc 15 q (nc 15 (by omega)) (by omega) (zc 15 (by omega))]; simp [chC]
  have c16 : ∀ q, C' 16 q = C 16 q := fun q => by
    rw [fc 16 q (nc 16 (by omega)) (by omega) (zc 16 (by omega))]; simp [chC]
  have c17 : ∀ q, C' 17 q = C 17 q := fun q => by
    rw [fc 17 q (nc 17 (by omega)) (by omega) (zc 17 (by omega))]; simp [chC]
  have c18 : ∀ q, C' 18 q = if q = p then nI k else C 18 q := fun q => by
    rw [fc 18 q (nc 18 (by omega)) (by omega) (zc 18 (by omega))]; simp [chC]
  have d14 : ∀ q, D' 542 q = if q = p then v else D 542 q := fun q => by
    rw [fd 542 q (nd 542 (by omega)) (zd 542 (by omega))]; simp [chD, ao_u]
  have d15 : ∀ q, D' 543 q = if q = p then D 537 26 else D 543 q := fun q => by
    rw [fd 543 q (nd 543 (by omega)) (zd 543 (by omega))]; simp [chD, ao_u]
  have d16 : ∀ q, D' 544 q = D 544 q := fun q => by
    rw [fd 544 q (nd 544 (by omega)) (zd 544 (by omega))]; simp [chD, ao_u]
  have d17 : ∀ q, D' 545 q = D 545 q := fun q => by
    rw [fd 545 q (nd 545 (by omega)) (zd 545 (by omega))]; simp [chD, ao_u]
  have d18 : ∀ q, D' 546 q = if q = p then nI k else D 546 q := fun q => by
    rw [fd 546 q (nd 546 (by omega)) (zd 546 (by omega))]; simp [chD, ao_u]
  have u1 : ao_u D 542 p v 537 26 = D 537 26 := u_n1 (by omega)
  have u2 : ao_u D 542 p v 542 p = v := u_eq
  have u3 : ao_u D 542 p v 546 p = D 546 p := u_n1 (by omega)
  rw [u1, u2, u3, ← ec, ← (ev p hp).2.2.2.2.1] at pd'
  dsimp only
  refine ⟨⟨_, _, _, pc', pd', ?_, ?_, ?_⟩, ⟨xc, ?_⟩, ⟨xd, ?_⟩, fun q hq => ⟨c14 q, c15 q, c16 q⟩, e13⟩
  · intro i hi
    simp only [updF]
    by_cases e : i = k
    · subst e
      simp only [↓reduceIte]
      rcases (ev p hp).2.2.2.2.2.2 with e | ⟨j, hj, e⟩
      · exact Or.inl e
      · exact Or.inr ⟨j, hj, e⟩
    · simp only [if_neg e]
      exact ch i (by omega)
  · intro q hq
    obtain ⟨a1, a2, a3, a4, a5, a6, a7⟩ := ev q hq
    rw [c14, c15, c16, c17, c18, d14, d15, d16, d17, d18, ec]
    refine ⟨by rw [a1], by rw [a2], a3, a4, by rw [a5], a6, ?_⟩
    by_cases e : q = p
    · exact Or.inr ⟨k, by omega, by rw [if_pos e]⟩
    · rw [if_neg e]
      rcases a7 with e | ⟨j, hj, e⟩
      · exact Or.inl e
      · exact Or.inr ⟨j, by omega, e⟩
  · rw [e13, e537, ec]
  · intro x i hx hp' hz1
    have hz1' := hz1 z hz
    obtain ⟨y, y', b1, b2, b3, b4, b5, b6, b8, b9⟩ := xc
    obtain rfl : z = y := by rw [hz] at b1; exact Option.some.inj b1
    rw [fc x i (fun e => ?_) (by omega) hz1]
    · simp only [chC]
      rw [if_neg (by omega), if_neg (by omega), if_neg (by omega), if_neg (by omega)]
    · rcases b6 x e with e | e
      · exact hp' e
      · omega
  · intro x i hi hx hp' hz1
    have hz1' := hz1 z' hz'
    obtain ⟨y, y', b1, b2, b3, b4, b5, b6, b8, b9⟩ := xd
    obtain rfl : z' = y := by rw [hz'] at b1; exact Option.some.inj b1
    rw [fd x i (fun e => ?_) hz1]
    · simp only [chD]
      rw [if_neg (by omega), if_neg (by omega), if_neg (by omega), u_n1 (by omega)]
    · rcases b6 x e with e | e
      · exact hp' e
      · omega
/-! ===== letting go of what a thread has taken ===== -/
theorem Rpl_fr {ρ σ : ao_H} {C D C' D' : ao_M} {k : Nat} (r : Rpl k C ρ D σ) (hc : ∀ x i, (x = 13 ∨ x = 14 ∨ x = 15 ∨ x = 16 ∨ x = 17 ∨ x = 18 ∨ PAc ρ x) → C' x i = C x i) (hd : ∀ x i, (x = 537 ∧ (i = 25 ∨ i = 26) ∨ x = 542 ∨ x = 543 ∨ x = 544 ∨ x = 545 ∨ x = 546 ∨ PAd σ x) → D' x i = D x i) : Rpl k C' ρ D' σ := by
  obtain ⟨f, g, h, pc, pd, ch, ev, ec⟩ := r
  refine ⟨f, g, h, ?_, ?_, ch, ?_, ?_⟩
  · obtain ⟨a, b, c, rm, z, F6, F7, F8, ka, kb, kc, la, lb, lc, m9, m10, h1, h2, h3, ab, ac, bc, da, db, dc, hz, hz9, az, bz, cz, eqs⟩ := pc
    refine ⟨a, b, c, rm, z, F6, F7, F8, ka, kb, kc, la, lb, lc, (hc _ _ (by simp)).trans m9, (hc _ _ (by simp)).trans m10, h1, h2, h3, ab, ac, bc, da, db, dc, hz, hz9, az, bz, cz, ?_⟩
    intro i hi
    rw [hc a i (by simp [PAc, F6]), hc b i (by simp [PAc, F7]), hc c i (by simp [PAc, F8])]
    exact eqs i hi
  · obtain ⟨a, b, c, rm, z, F6, F7, F8, ka, kb, kc, la, lb, lc, m10, h1, h2, h3, ab, ac, bc, da, db, dc, hz, hz9, az, bz, cz, eqs⟩ := pd
    refine ⟨a, b, c, rm, z, F6, F7, F8, ka, kb, kc, la, lb, lc, (hd _ _ (by simp)).trans m10, h1, h2, h3, ab, ac, bc, da, db, dc, hz, hz9, az, bz, cz, ?_⟩
    intro i hi
    rw [hd a i (by simp [PAd, F6]), hd b i (by simp [PAd, F7]), hd c i (by simp [PAd, F8])]
    exact eqs i hi
  · intro p hp
    rw [hc 14 p (by simp), hc 15 p (by simp), hc 16 p (by simp), hc 17 p (by simp), hc 18 p (by simp), hd 542 p (by simp), hd 543 p (by simp), hd 544 p (by simp), hd 545 p (by simp), hd 546 p (by simp)]
    exact ev p hp
  · rw [hc 13 4 (by simp), hd 537 26 (by simp)]
    exact ec
theorem Rpl_nc {ρ σ : ao_H} {C D : ao_M} {k : Nat} (r : Rpl k C ρ D σ) {x : Nat} (hx : (x < 19 ∨ 21 < x) ∧ x < 599) : ¬ PAc ρ x := by
  obtain ⟨f, g, h, pc, pd, _⟩ := r
  exact PLc_n pc hx
theorem Rpl_nd {ρ σ : ao_H} {C D : ao_M} {k : Nat} (r : Rpl k C ρ D σ) {x : Nat} (hx : (x < 547 ∨ 549 < x) ∧ x < 599) : ¬ PAd σ x := by
  obtain ⟨f, g, h, pc, pd, _⟩ := r
  exact PLd_n pd hx
theorem Rpl_z {ρ σ : ao_H} {C D : ao_M} {k : Nat} (r : Rpl k C ρ D σ) : (∃ z, ρ.2.2.2.1 = some z ∧ 599 ≤ z) ∧ ∃ z, σ.2.2.2.1 = some z ∧ 599 ≤ z := by
  obtain ⟨f, g, h, pc, pd, _⟩ := r
  exact ⟨PLc_z pc, PLd_z pd⟩
/-- a place let go on both sides: free, then changed -/
theorem let_go {ρ σ : ao_H} {C D : ao_M} {k p : Nat} (hc : ShA ρ) (hs : ShD σ) (hp : p < 26) (hk : k ≤ 30000) (r : Rpl k C ρ D σ) :
    hv (fun n => gX5_change n 13 (nI p) (C 14 p) (ao_u C 16 p (-1)) ρ) (fun y => hv (fun n => gX12_remember n 537 (nI p) (ao_u D 544 p (-1)) σ) (fun w => Rpl (k + 1) y.1 y.2 w.1 w.2 ∧ FC C ρ y.1 y.2 ∧ FD D σ w.1 w.2 ∧
      (∀ q, q < 26 → y.1 14 q = C 14 q ∧ y.1 16 q = if q = p then -1 else C 16 q))) := by
  have r1 : Rpl k (ao_u C 16 p (-1)) ρ (ao_u D 544 p (-1)) σ := by
    obtain ⟨f, g, h, pc, pd, ch, ev, ec⟩ := r
    refine ⟨f, g, h, PLc_mv pc ?_ ?_ ?_, PLd_mv pd ?_ ?_, ch, ?_, ?_⟩
    · simp (disch := omega) only [u_n1]
    · simp (disch := omega) only [u_n1]
    · intro x hx; funext i; simp (disch := omega) only [u_n1]
    · simp (disch := omega) only [u_n1]
    · intro x hx; funext i; simp (disch := omega) only [u_n1]
    · intro q hq
      obtain ⟨a1, a2, a3, a4, a5, a6, a7⟩ := ev q hq
      simp (disch := omega) only [u_n1]
      by_cases e : q = p
      · subst e
        simp only [u_eq]
        exact ⟨a1, a2, trivial, a4, a5, Or.inl trivial, a7⟩
      · simp (disch := omega) only [u_n2]
        exact ⟨a1, a2, a3, a4, a5, a6, a7⟩
    · simp (disch := omega) only [u_n1]
      exact ec
  have e1 : ao_u (ao_u D 544 p (-1)) 542 p (C 14 p) = ao_u D 544 p (-1) := by
    obtain ⟨f, g, h, pc, pd, ch, ev, ec⟩ := r
    funext a i
    simp only [ao_u]
    by_cases e : a = 542 ∧ i = p
    · obtain ⟨rfl, rfl⟩ := e
      simp [(ev i hp).1]
    · simp [e]
  have hh := ch_pair (v := C 14 p) hc hs hp hk r1
  rw [e1] at hh
  refine hv_mono hh ?_
  rintro ⟨C', ρ'⟩ h2
  refine hv_mono h2 ?_
  rintro ⟨D', σ'⟩ ⟨a1, a2, a3, a4, a5⟩
  refine ⟨a1, ⟨a2.1, fun x i hx hp' hz => ?_⟩, ⟨a3.1, fun x i hi hx hp' hz => ?_⟩, fun q hq => ⟨?_, ?_⟩⟩
  · rw [a2.2 x i hx hp' hz, u_n1 (by omega)]
  · rw [a3.2 x i hi hx hp' hz, u_n1 (by omega)]
  · rw [(a4 q hq).1]
    by_cases e : q = p
    · rw [if_pos e, e]
    · rw [if_neg e, u_n1 (by omega)]
  · rw [(a4 q hq).2.2]
    by_cases e : q = p
    · rw [if_pos e, e, u_eq]
    · rw [if_neg e, u_n2 (by omega)]
