set_option linter.unusedSimpArgs false
set_option linter.unusedVariables false
/-! ===== a thread stays as it is where nothing of it changes ===== -/
def inC (t : Nat) (C C' : ao_M) : Prop := ∀ a i, 92 + 71 * t ≤ a → a < 92 + 71 * t + 71 → C' a i = C a i
def inD (t : Nat) (D D' : ao_M) : Prop := ∀ a i, 550 ≤ a → a ≤ 584 → t * wd a ≤ i → i < (t + 1) * wd a → D' a i = D a i
theorem inD_1 {t : Nat} {D D' : ao_M} (h : inD t D D') {a : Nat} (ha : a = 551 ∨ a = 552 ∨ 555 ≤ a ∧ a ≤ 564) : D' a t = D a t := by
  refine h a t (by omega) (by omega) ?_ ?_
  · have : wd a = 1 := by
      unfold wd
      rw [if_neg (by omega), if_neg (by omega), if_neg (by omega), if_neg (by omega), if_neg (by omega), if_neg (by omega)]
    rw [this]; omega
  · have : wd a = 1 := by
      unfold wd
      rw [if_neg (by omega), if_neg (by omega), if_neg (by omega), if_neg (by omega), if_neg (by omega), if_neg (by omega)]
    rw [this]; omega
theorem inD_12 {t : Nat} {D D' : ao_M} (h : inD t D D') {a j : Nat} (ha : 565 ≤ a ∧ a ≤ 574 ∨ a = 576 ∨ a = 584) (hj : j < 12) : D' a (t * 12 + j) = D a (t * 12 + j) := by
  have : wd a = 12 := by
    unfold wd
    rw [if_neg (by omega), if_neg (by omega), if_neg (by omega), if_neg (by omega), if_neg (by omega), if_pos (by omega)]
  refine h a _ (by omega) (by omega) ?_ ?_
  · rw [this]; omega
  · rw [this]; omega
theorem inD_26 {t : Nat} {D D' : ao_M} (h : inD t D D') {a j p : Nat} (ha : a = 575 ∨ 577 ≤ a ∧ a ≤ 582) (hj : j < 12) (hp : p < 26) : D' a ((t * 12 + j) * 26 + p) = D a ((t * 12 + j) * 26 + p) := by
  have : wd a = 312 := by
    unfold wd
    rw [if_neg (by omega), if_neg (by omega), if_neg (by omega), if_pos (by omega)]
  refine h a _ (by omega) (by omega) ?_ ?_
  · rw [this]; omega
  · rw [this]; omega
theorem Lv_fr {C C' D D' : ao_M} {rc rc' t j : Nat} (h : Lv C D rc t j) (hj : j < 10) (hr : rc ≤ rc') (hC : inC t C C') (hD : inD t D D') : Lv C' D' rc' t j := by
  obtain ⟨⟨l1, l2⟩, l3, l4, ⟨ps, vs, ws, l5, l6⟩⟩ := h
  have e1 : ∀ o i, o ≤ 5 → C' (92 + 71 * t + 8 + 6 * j + o) i = C (92 + 71 * t + 8 + 6 * j + o) i := fun o i ho => hC _ _ (by omega) (by omega)
  have e0 : ∀ i, C' (92 + 71 * t + 8 + 6 * j) i = C (92 + 71 * t + 8 + 6 * j) i := fun i => hC _ _ (by omega) (by omega)
  refine ⟨⟨?_, ?_⟩, fun k hk => ?_, ⟨fun p hp => ?_, fun p hp => ?_⟩, ps, vs, ws, RdC_mv l5 (e0 _) (e0 _) (fun i => ⟨e1 1 i (by omega), e1 2 i (by omega), e1 3 i (by omega)⟩), RdD_mv l6 hr (fun p hp => ⟨inD_26 hD (by omega) (by omega) hp, inD_26 hD (by omega) (by omega) hp, inD_26 hD (by omega) (by omega) hp, inD_26 hD (by omega) (by omega) hp⟩)⟩
  · rw [e0, inD_12 hD (by omega) (by omega)]; exact l1
  · rw [inD_12 hD (by omega) (by omega)]; exact l2
  · rw [e1 5 k (by omega), inD_26 hD (by omega) (by omega) hk]; exact l3 k hk
  · rw [e0]; exact l4.1 p hp
  · rw [e0, inD_26 hD (by omega) (by omega) hp, inD_26 hD (by omega) (by omega) hp, e1 4 p (by omega)]; exact l4.2 p hp
theorem Held_fr {C C' D D' : ao_M} {t dp : Nat} (h : Held C D t dp) (hd : dp ≤ 10) (hC : inC t C C') (hD : inD t D D') : Held C' D' t dp := by
  obtain ⟨hl, a, b, c⟩ := h
  refine ⟨hl, fun j hj => ?_, ?_, fun i hi h2 => ?_⟩
  · obtain ⟨a1, a2, a3, a4⟩ := a j hj
    refine ⟨a1, ?_, ?_, fun i hi => ?_⟩
    · rw [inD_12 hD (by omega) (by omega)]; exact a2
    · rw [hC _ _ (by omega) (by omega)]; exact a3
    · rw [hD 583 _ (by omega) (by omega) (show t * 2400 ≤ _ by omega) (show _ < (t + 1) * 2400 by omega)]; exact a4 i hi
  · rw [hC _ _ (by omega) (by omega)]; exact b
  · rw [hC _ _ (by omega) (by omega)]; exact c i hi h2
theorem Ins_fr {C C' D D' : ao_M} {rc rc' t dp : Nat} (h : Ins C D rc t dp) (hd : dp ≤ 10) (hr : rc ≤ rc') (hC : inC t C C') (hD : inD t D D') : Ins C' D' rc' t dp := by
  obtain ⟨a, b, c⟩ := h
  exact ⟨by rw [hC _ _ (by omega) (by omega)]; exact a, fun j hj => Lv_fr (b j hj) (by omega) hr hC hD, Held_fr c hd hC hD⟩
theorem Ent_fr {C C' D D' : ao_M} {t len : Nat} {fi se : Fn} {φ : Nat → Nat} {N : Ns} {x : Nat × Nat} (h : Ent C D t fi se len φ N x) (h1 : nl (N x.2) < 10) (h2 : ns (N x.2) ≤ 10) (h3 : nt (N x.2) ≤ 10) (hC : inC t C C') (hD : inD t D D') : Ent C' D' t fi se len φ N x := by
  obtain ⟨a, b, c⟩ := h
  refine ⟨fun e => ?_, fun e => ?_, fun e => ?_⟩
  · rw [hC _ _ (by omega) (by omega), hC _ _ (by omega) (by omega), inD_12 hD (a := 570) (by omega) (by omega), inD_12 hD (a := 571) (by omega) (by omega), inD_12 hD (a := 572) (by omega) (by omega), inD_12 hD (a := 573) (by omega) (by omega), inD_12 hD (a := 574) (by omega) (by omega), inD_12 hD (a := 565) (by omega) (by omega)]
    exact a e
  · rw [inD_12 hD (by omega) (by omega)]; exact b e
  · rw [hC _ _ (by omega) (by omega), hC _ _ (by omega) (by omega), inD_12 hD (a := 566) (by omega) (by omega), inD_12 hD (a := 567) (by omega) (by omega), inD_12 hD (a := 568) (by omega) (by omega), inD_12 hD (a := 569) (by omega) (by omega)]
    exact c e
theorem Regs_fr {C C' D D' : ao_M} {t : Nat} (h : Regs C D t) (hC : inC t C C') (hD : inD t D D') : Regs C' D' t := fun k hk => by
  rw [hC _ _ (by omega) (by omega), hD 553 _ (by omega) (by omega) (show t * 26 ≤ _ by omega) (show _ < (t + 1) * 26 by omega)]; exact h k hk
theorem Stk_fr {C C' D D' : ao_M} {t h : Nat} (hh : h ≤ 64) (a : Stk C D t h) (hC : inC t C C') (hD : inD t D D') : Stk C' D' t h := by
  refine ⟨?_, ?_, fun i hi => ?_⟩
  · rw [hC _ _ (by omega) (by omega)]; exact a.1
  · rw [inD_1 hD (by omega)]; exact a.2.1
  · rw [hC _ _ (by omega) (by omega), hD 554 _ (by omega) (by omega) (show t * 64 ≤ _ by omega) (show _ < (t + 1) * 64 by omega)]; exact a.2.2 i hi
/-- bounds of a nest's entries -/
theorem chd_b {N : Ns} {op : Fn} {len : Nat} (k6 : ∀ i, i ≤ len → (N i).length ≤ 10) : ∀ (s : List (Nat × Nat)), chd N op len s → s.length ≤ 10 → ∀ x ∈ s, nl (N x.2) < 10 ∧ ns (N x.2) ≤ 10 ∧ nt (N x.2) ≤ 10 := by
  intro s
  induction s with
  | nil => intro _ _ x hx; exact absurd hx (by simp)
  | cons e s ih =>
    intro hcs hlen x hx
    obtain ⟨g1, g2, g3, g4⟩ := hcs
    simp at hlen
    rcases List.mem_cons.mp hx with rfl | hx
    · have l1 := @nl_le (N x.2)
      have l2 := @ns_le (N x.2)
      have l3 := @nt_le (N x.2)
      rw [← g1] at l1 l2 l3 ⊢
      exact ⟨by omega, by omega, by omega⟩
    · exact ih g4 (by omega) x hx
theorem Ctl_fr {C C' D D' : ao_M} {t len : Nat} {op fi se : Fn} {φ : Nat → Nat} {N : Ns} {l : List (Nat × Nat)} (h : Ctl C D t fi se len φ N l) (hb : ∀ x ∈ l, nl (N x.2) < 10 ∧ ns (N x.2) ≤ 10 ∧ nt (N x.2) ≤ 10) (hC : inC t C C') (hD : inD t D D') : Ctl C' D' t fi se len φ N l := by
  obtain ⟨a, b, c, e⟩ := h
  refine ⟨?_, ?_, ?_, fun x hx => Ent_fr (e x hx) (hb x hx).1 (hb x hx).2.1 (hb x hx).2.2 hC hD⟩
  · rw [hC _ _ (by omega) (by omega)]; exact a
  · rw [inD_1 hD (by omega)]; exact b
  · rw [inD_1 hD (by omega)]; exact c
theorem Th2_fr {C C' D D' : ao_M} {rc rc' t len : Nat} {op fi se d : Fn} {φ : Nat → Nat} {N : Ns} {H K : Nat → Nat} (cok : Cok op fi se d len φ N H K) (hr : rc ≤ rc') (hC : inC t C C') (hD : inD t D D') (h : Th2 C D rc t op fi se d len φ N H) : Th2 C' D' rc' t op fi se d len φ N H := by
  obtain ⟨k1, k2, k3, k4, k5, k6, k7⟩ := cok
  obtain ⟨a, h1, ⟨h2, q, h3, h4, h5⟩, h6, h7, h8, h9, h10, h11, h12⟩ := h
  obtain ⟨m1, m2, m3, m4⟩ := k6 a h1
  have hb := chd_b (fun i hi => (k6 i hi).2.1) (N a) m4 m2
  have l1 := @nl_le (N a)
  refine ⟨a, h1, ⟨?_, q, ?_, h4, h5⟩, Stk_fr (by omega) h6 hC hD, Ctl_fr (op := op) h7 hb hC hD, h8, Ins_fr h9 (by omega) hr hC hD, ?_, ?_, ?_⟩
  · rw [hC _ _ (by omega) (by omega)]; exact h2
  · rw [inD_1 hD (by omega)]; exact h3
  · rw [inD_1 hD (by omega)]; exact h10
  · rw [hC _ _ (by omega) (by omega), inD_1 hD (by omega)]; exact h11
  · rw [hC _ _ (by omega) (by omega), inD_1 hD (by omega)]; exact h12
theorem Run_fr {C C' D D' : ao_M} {rc rc' t s len : Nat} {op fi se d : Fn} {φ : Nat → Nat} {N : Ns} {H K : Nat → Nat} (cok : Cok op fi se d len φ N H K) (hr : rc ≤ rc') (hC : inC t C C') (hD : inD t D D') (h : Run C D rc t s op fi se d len φ N H) : Run C' D' rc' t s op fi se d len φ N H := by
  have cok' := cok
  obtain ⟨k1, k2, k3, k4, k5, k6, k7⟩ := cok
  obtain ⟨a1, a2, a3⟩ := h
  refine ⟨fun e => ?_, fun e => Th2_fr cok' hr hC hD (a2 e), fun e => ?_⟩
  · obtain ⟨a, h1, ⟨h2, q, h3, h4, h5⟩, h6, h7, h8⟩ := a1 e
    obtain ⟨m1, m2, m3, m4⟩ := k6 a h1
    have hb := chd_b (fun i hi => (k6 i hi).2.1) (N a) m4 m2
    refine ⟨a, h1, ⟨?_, q, ?_, h4, h5⟩, Stk_fr (by omega) h6 hC hD, Ctl_fr (op := op) h7 hb hC hD, h8⟩
    · rw [hC _ _ (by omega) (by omega)]; exact h2
    · rw [inD_1 hD (by omega)]; exact h3
  · obtain ⟨b, h1, h2, h3, h4, h5, h6, h7, h8, h9⟩ := a3 e
    obtain ⟨m1, m2, m3, m4⟩ := k6 (b + 1) (by omega)
    rw [h3] at m2 m4
    have hb := chd_b (fun i hi => (k6 i hi).2.1) _ m4 m2
    refine ⟨b, h1, h2, h3, h4, h5, h6, fun x hx => Ent_fr (h7 x hx) (hb x hx).1 (hb x hx).2.1 (hb x hx).2.2 hC hD, Ins_fr h8 (by omega) hr hC hD, fun p => ?_⟩
    rw [hC _ _ (by omega) (by omega)]; exact h9 p
theorem Cat_fr {C C' : ao_M} {ρ ρ' : ao_H} {t len kd a1 a2 a3 : Nat} (h : Cat C ρ t len kd a1 a2 a3) (ht : t < 6) (hx : HxC C ρ C' ρ') (h9 : ∀ z, ρ.2.2.2.1 = some z → 599 ≤ z) (hc : ∀ x i, 599 ≤ x → ¬ PAc ρ x → (∀ z, ρ.2.2.2.1 = some z → x < z) → C' x i = C x i) : Cat C' ρ' t len kd a1 a2 a3 ∧ C' a1 = C a1 ∧ C' a2 = C a2 ∧ C' a3 = C a3 := by
  obtain ⟨b1, b2, b3, b4, b5, b6, b7, b8, b9, b10, b11, b12, b13, b14, b15, b16, b17, b18, b19, b20, b21, z, b22, b23, b24, b25, b26⟩ := h
  obtain ⟨y, y', c1, c2, c3, c4, c5, c6, c8, c9⟩ := hx
  obtain rfl : z = y := by rw [b22] at c1; exact Option.some.inj c1
  have hz := h9 z b22
  have zz : ∀ x, x < z → ∀ w, ρ.2.2.2.1 = some w → x < w := fun x h w e => by rw [b22] at e; have := Option.some.inj e; omega
  have np : ∀ x, x < z → ¬ PAc ρ x → ¬ PAc ρ' x := fun x h1 h2 h3 => by
    rcases c6 x h3 with e | e
    · exact h2 e
    · omega
  refine ⟨⟨?_, ?_, ?_, ?_, ?_, ?_, ?_, ?_, ?_, ?_, ?_, ?_, ?_, b14, b15, b16, b17, np _ b23 b18, np _ b24 b19, np _ b25 b20, np _ b26 b21, y', c2, by omega, by omega, by omega, by omega⟩, ?_, ?_, ?_⟩
  · rw [c5 _ _ (by omega) (by omega)]; exact b1
  · rw [(c4 _ b23).1]; exact b2
  · rw [c5 _ _ b23 (by omega)]; exact b3
  · rw [c5 _ _ b23 (by omega)]; exact b4
  · rw [c5 _ _ b23 (by omega)]; exact b5
  · rw [(c4 _ b24).1]; exact b6
  · rw [(c4 _ b25).1]; exact b7
  · rw [(c4 _ b26).1]; exact b8
  · rw [(c4 _ b24).2]; exact b9
  · rw [(c4 _ b25).2]; exact b10
  · rw [(c4 _ b26).2]; exact b11
  · rw [hc _ _ b14 b18 (zz _ b23)]; exact b12
  · rw [hc _ _ b14 b18 (zz _ b23)]; exact b13
  · funext i; exact hc _ _ b15 b19 (zz _ b24)
  · funext i; exact hc _ _ b16 b20 (zz _ b25)
  · funext i; exact hc _ _ b17 b21 (zz _ b26)
/-- a thread that nothing touches -/
theorem Thr_fr {C C' D D' : ao_M} {ρ ρ' : ao_H} {rc rc' t : Nat} (h : Thr C ρ D rc t) (ht : t < 6) (hr : rc ≤ rc') (hC : inC t C C') (hD : inD t D D') (hx : HxC C ρ C' ρ') (h9 : ∀ z, ρ.2.2.2.1 = some z → 599 ≤ z) (hc : ∀ x i, 599 ≤ x → ¬ PAc ρ x → (∀ z, ρ.2.2.2.1 = some z → x < z) → C' x i = C x i) : Thr C' ρ' D' rc' t := by
  obtain ⟨s, a1, a2, a3, a4, a5, a6, a7, a8, a9, a10, a11⟩ := h
  have e : ∀ i, C' (92 + 71 * t) i = C (92 + 71 * t) i := fun i => hC _ _ (by omega) (by omega)
  refine ⟨s, a1, by rw [e]; exact a2, by rw [inD_1 hD (by omega)]; exact a3, by rw [e]; exact a4, by rw [e, inD_1 hD (by omega)]; exact a5, by rw [e, inD_1 hD (by omega)]; exact a6, by rw [e, inD_1 hD (by omega)]; exact a7, Regs_fr a8 hC hD, by rw [e]; exact a9, by rw [inD_1 hD (by omega)]; exact a10, ?_⟩
  rcases a11 with ⟨a11, a12⟩ | ⟨n0, len, kd, x1, x2, x3, φ, N, H, K, g1, g2, g3⟩
  · exact Or.inl ⟨a11, fun i q1 q2 => by rw [e]; exact a12.1 i q1 q2, fun k hk => by rw [hC _ _ (by omega) (by omega)]; exact a12.2 k hk⟩
  · obtain ⟨k1, k2, k3, k4⟩ := Cat_fr g1 ht hx h9 hc
    have ed : dcd D' t = dcd D t := by
      funext x
      unfold dcd
      by_cases q : x < 18000
      · rw [if_pos q, if_pos q, hD 550 _ (by omega) (by omega) (show t * 18000 ≤ _ by omega) (show _ < (t + 1) * 18000 by omega)]
      · rw [if_neg q, if_neg q]
    refine Or.inr ⟨n0, len, kd, x1, x2, x3, φ, N, H, K, k1, ?_, ?_⟩
    · rw [k2, k3, k4, ed]; exact g2
    · rw [k2, k3, k4, ed]; exact Run_fr g2 hr hC hD g3
