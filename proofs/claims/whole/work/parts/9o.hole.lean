set_option linter.unusedSimpArgs false
set_option linter.unusedVariables false
/-! ===== all of it, but for some threads ===== -/
def FullP (P : Nat → Prop) (C : ao_M) (ρ : ao_H) (D : ao_M) (σ : ao_H) (kp rc nw bw br : Nat) : Prop :=
  (ShA ρ ∧ ShB ρ ∧ ShG ρ ∧ ShD σ) ∧ Rpl kp C ρ D σ ∧ (C 12 5 = D 537 27 ∧ (∃ w, w ≤ 4 ∧ D 537 27 = nI w) ∧ Ext C D nw) ∧ (¬ (D 537 27 = 3 ∨ D 537 27 = 4) → ∀ p, p < 26 → C 16 p = -1) ∧ Rsd C D ∧ Rrc C D ∧ D 537 64 = nI rc ∧ (∀ t, t < 6 → dpC C t ≤ 10 ∧ (P t → Thr C ρ D rc t)) ∧ Bth C D ((nw + 1) / 2) ∧ Enr C D kp rc bw br ∧ bw ≤ 28000 ∧ br ≤ 100000000
theorem Full_P {C D : ao_M} {ρ σ : ao_H} {kp rc nw bw br : Nat} (h : Full C ρ D σ kp rc nw bw br) (P : Nat → Prop) : FullP P C ρ D σ kp rc nw bw br := by
  obtain ⟨z1, z2, z3, z4, z5, z6, z7, z8, z9, z10, z11, z12⟩ := h
  exact ⟨z1, z2, z3, z4, z5, z6, z7, fun t ht => ⟨dpC_le (z8 t ht), fun _ => z8 t ht⟩, z9, z10, z11, z12⟩
theorem P_Full {C D : ao_M} {ρ σ : ao_H} {kp rc nw bw br t : Nat} (h : FullP (fun u => u ≠ t) C ρ D σ kp rc nw bw br) (ht : t < 6) (hT : Thr C ρ D rc t) : Full C ρ D σ kp rc nw bw br := by
  obtain ⟨z1, z2, z3, z4, z5, z6, z7, z8, z9, z10, z11, z12⟩ := h
  refine ⟨z1, z2, z3, z4, z5, z6, z7, fun u hu => ?_, z9, z10, z11, z12⟩
  by_cases e : u = t
  · subst e; exact hT
  · exact (z8 u hu).2 e
theorem cntK_t {C C' : ao_M} {t : Nat} (h : ∀ p, p < 26 → C' 16 p = if C 16 p = nI t then -1 else C 16 p) (ht : t < 6) : cntK C' + cntT C t 0 26 = cntK C := by
  have hn := n_neg (n := t) (by omega)
  unfold cntK cntT
  rw [List.range_eq_range']
  have : ∀ (l : List Nat), (∀ p ∈ l, p < 26) → l.countP (fun p => decide (C' 16 p ≠ -1)) + l.countP (fun q => decide (C 16 q = nI t)) = l.countP (fun p => decide (C 16 p ≠ -1)) := by
    intro l
    induction l with
    | nil => intro _; rfl
    | cons a l ih =>
      intro hl
      have ih' := ih (fun p hp => hl p (List.mem_cons_of_mem _ hp))
      have ha := h a (hl a (by simp))
      rw [List.countP_cons, List.countP_cons, List.countP_cons]
      by_cases e : C 16 a = nI t
      · rw [if_pos e] at ha
        have e2 : C 16 a ≠ -1 := fun q => by
          rw [← e] at hn
          exact absurd q (by rw [hn]; exact id)
        simp only [ha, e, e2]
        rw [e] at e2
        simp only [ne_eq] at ih'
        simp only [e2, ne_eq, not_true_eq_false, not_false_eq_true, decide_true, decide_false, ↓reduceIte, Bool.false_eq_true]
        omega
      · rw [if_neg e] at ha
        simp only [ha, e, decide_false, Bool.false_eq_true, ↓reduceIte]
        omega
  exact this _ (fun p hp => by simpa using hp)
theorem cntK_e {C C' : ao_M} (h : ∀ p, p < 26 → C' 16 p = C 16 p) : cntK C' = cntK C := by
  unfold cntK
  exact List.countP_congr (fun p hp => by rw [h p (by simpa using hp)])
/-- a change of places, of one thread, and of what is said and recorded -/
theorem P_pl {P : Nat → Prop} {C D C' D' : ao_M} {ρ σ ρ' σ' : ao_H} {kp rc nw bw br kp' rc' nw' bw' br' t : Nat} (h : FullP P C ρ D σ kp rc nw bw br) (ht : t < 6) (hX : HxC C ρ C' ρ') (hY : HxD σ σ')
    (hC : ∀ x i, (x < 13 ∨ 18 < x) → ¬ (92 + 71 * t ≤ x ∧ x < 92 + 71 * t + 71) → ¬ (22 ≤ x ∧ x ≤ 90) → ¬ PAc ρ x → (∀ z, ρ.2.2.2.1 = some z → x < z) → C' x i = C x i)
    (hD : ∀ x i, ¬ (x = 537 ∧ (i = 25 ∨ i = 26 ∨ i = 63 ∨ i = 64 ∨ i = 68 ∨ i = 76 ∨ i = 77)) → (x < 542 ∨ 546 < x) → ¬ (585 ≤ x ∧ x ≤ 593) → ¬ (551 ≤ x ∧ x ≤ 584 ∧ t * wd x ≤ i ∧ i < (t + 1) * wd x) → ¬ PAd σ x → (∀ z, σ.2.2.2.1 = some z → x < z) → D' x i = D x i)
    (hRp : Rpl kp' C' ρ' D' σ') (h16 : ¬ (D 537 27 = 3 ∨ D 537 27 = 4) → ∀ p, p < 26 → C' 16 p = -1) (h64 : D' 537 64 = nI rc') (hrr : rc ≤ rc') (hS : Rsd C' D') (hRc : Rrc C' D') (hB : Bth C' D' ((nw' + 1) / 2)) (hdp : dpC C' t ≤ 10) (hT : P t → Thr C' ρ' D' rc' t)
    (hwe : (D 537 27 = 3 ∨ D 537 27 = 4) → kp' + cntK C' + bw ≤ kp + cntK C + bw') (hwl : ¬ (D 537 27 = 3 ∨ D 537 27 = 4) → kp' + wsum C' t (dpC C' t) + bw ≤ kp + wsum C t (dpC C t) + bw') (hr : rc' + rsum C' t (dpC C' t) + br ≤ rc + rsum C t (dpC C t) + br') (hbw8 : bw' ≤ 28000) (hbr8 : br' ≤ 100000000) (hn2 : nw' / 2 = nw / 2 := by first | rfl | omega) : FullP P C' ρ' D' σ' kp' rc' nw' bw' br' := by
  obtain ⟨⟨f1, f2, f3, f4⟩, f5, ⟨f6, f7, fX⟩, f8, f9, f10, f11, f12, f13, f14, f15, f16⟩ := h
  have zc := sh_zc f5
  have zd := sh_zd f5
  have npc : ∀ x, (x < 19 ∨ 21 < x) ∧ x < 599 → ¬ PAc ρ x := fun x hx => Rpl_nc f5 hx
  have npd : ∀ x, (x < 547 ∨ 549 < x) ∧ x < 599 → ¬ PAd σ x := fun x hx => Rpl_nd f5 hx
  have cl : ∀ x i, (x < 13 ∨ 91 ≤ x ∧ x < 599) → ¬ (92 + 71 * t ≤ x ∧ x < 92 + 71 * t + 71) → C' x i = C x i := fun x i h1 h2 => hC x i (by omega) h2 (by omega) (npc x (by omega)) (fun z hz => by have := zc z hz; omega)
  have dl : ∀ x i, x < 599 → ¬ (x = 537 ∧ (i = 25 ∨ i = 26 ∨ i = 63 ∨ i = 64 ∨ i = 68 ∨ i = 76 ∨ i = 77)) → (x < 542 ∨ 549 < x) → ¬ (585 ≤ x ∧ x ≤ 593) → ¬ (551 ≤ x ∧ x ≤ 584 ∧ t * wd x ≤ i ∧ i < (t + 1) * wd x) → D' x i = D x i := fun x i h0 h1 h2 h3 h4 => hD x i h1 (by omega) h3 h4 (npd x (by omega)) (fun z hz => by have := zd z hz; omega)
  have d27 : D' 537 27 = D 537 27 := dl _ _ (by omega) (by omega) (by omega) (by omega) (by omega)
  clear f9 f10 f13
  have oth := oth_of (C := C) (D := D) (C' := C') (D' := D') (t := t) (fun a i h1 h2 h3 => cl a i (by omega) h3) (fun a i h1 h2 h3 => dl a i (by omega) (by omega) (by omega) (by omega) h3)
  refine ⟨⟨HxC_shA hX zc f1, HxC_shB hX zc f2, HxC_shG hX zc f3, HxD_sh hY zd f4⟩, hRp, ⟨?_, ?_, Ext_fr fX hn2 (fun x i q => cl x i (by omega) (by omega)) (fun x i q => dl x i (by omega) (by omega) (by omega) (by omega) (by omega))⟩, ?_, hS, hRc, h64, ?_, hB, ?_, hbw8, hbr8⟩
  · rw [cl _ _ (by omega) (by omega), d27]; exact f6
  · rw [d27]; exact f7
  · rw [d27]; exact h16
  · intro u hu
    by_cases e : u = t
    · subst e; exact ⟨hdp, hT⟩
    · refine ⟨?_, fun hP => Thr_fr ((f12 u hu).2 hP) hu hrr (oth u hu e).1 (oth u hu e).2 hX zc (fun x i hx h1 h2 => hC x i (by omega) (by omega) (by omega) h1 h2)⟩
      have := (f12 u hu).1
      unfold dpC at this ⊢
      rw [(oth u hu e).1 _ _ (by omega) (by omega)]
      exact this
  · obtain ⟨e1, e2, e3⟩ := f14
    have hsame : ∀ u, u < 6 → u ≠ t → wsum C' u (dpC C' u) = wsum C u (dpC C u) ∧ rsum C' u (dpC C' u) = rsum C u (dpC C u) := by
      intro u hu hne
      have hdp : dpC C' u = dpC C u := by
        unfold dpC
        rw [(oth u hu hne).1 _ _ (by omega) (by omega)]
      have hdb := (f12 u hu).1
      rw [hdp]
      refine ⟨wsum_congr _ (fun j hj => (oth u hu hne).1 _ _ (by omega) (by omega)), rsum_congr _ (fun j hj => ?_)⟩
      unfold rl
      rw [(oth u hu hne).1 _ _ (by omega) (by omega)]
    have s1 := sum6_one (f := fun u => wsum C u (dpC C u)) (f' := fun u => wsum C' u (dpC C' u)) ht (fun u hu hne => (hsame u hu hne).1)
    have s2 := sum6_one (f := fun u => rsum C u (dpC C u)) (f' := fun u => rsum C' u (dpC C' u)) ht (fun u hu hne => (hsame u hu hne).2)
    clear f12 hsame oth cl dl npc npd hC hD f1 f2 f3 f4 f8 h16 hRp f5 hX hY hT
    refine ⟨fun q => ?_, fun q => ?_, ?_⟩
    · rw [d27] at q
      have := e1 q
      have := hwe q
      omega
    · rw [d27] at q
      have := e2 q
      have := hwl q
      omega
    · omega
/-! ===== a thread within a block, in the middle of a step ===== -/
def Md (C : ao_M) (ρ : ao_H) (D : ao_M) (rc t len kd a1 a2 a3 : Nat) (φ : Nat → Nat) (N : Ns) (H K : Nat → Nat) (l : List (Nat × Nat)) : Prop := Cat C ρ t len kd a1 a2 a3 ∧ Cok (C a1) (C a2) (C a3) (dcd D t) len φ N H K ∧
  (C (92 + 71 * t) 2 = nI 2 ∧ D 551 t = nI 2 ∧ C (92 + 71 * t) 0 = nI t ∧ C (92 + 71 * t) 17 = D 559 t ∧ C (92 + 71 * t) 18 = D 562 t ∧ C (92 + 71 * t) 19 = D 561 t ∧ C (92 + 71 * t) 14 = D 560 t ∧ C (92 + 71 * t) 16 = D 564 t ∧ D 556 t = nI (nl l)) ∧ Regs C D t ∧ Ctl C D t (C a2) (C a3) len φ N l ∧ (chd N (C a1) len l ∧ l.length ≤ 10 ∧ 1 ≤ nl l) ∧ Ins C D rc t (nl l)
theorem Md_of {C D : ao_M} {ρ : ao_H} {rc t s len kd a1 a2 a3 a : Nat} {φ : Nat → Nat} {N : Ns} {H K : Nat → Nat} (h : Opn C ρ D rc t s len kd a1 a2 a3 φ N H K a) (hs : s = 2) : Md C ρ D rc t len kd a1 a2 a3 φ N H K (N a) := by
  obtain ⟨h1, h2, t1, t2, t3, t4, t5, t6, t7, t8, t9, t10, t11, t12, t13, t14, t15⟩ := h
  subst hs
  obtain ⟨g1, g2, g3, g4, g5⟩ := t15 rfl
  have := h2.2.2.2.2.2.1 a t9
  exact ⟨h1, h2, ⟨t2, t3, t4, t5, t6, t7, g4, g5, g3⟩, t8, t13, ⟨this.2.2.2, this.2.1, g1⟩, g2⟩
/-- where another thread changed, or places -/
theorem Md_fr {C D C' D' : ao_M} {ρ ρ' : ao_H} {rc rc' t len kd a1 a2 a3 : Nat} {φ : Nat → Nat} {N : Ns} {H K : Nat → Nat} {l : List (Nat × Nat)} (h : Md C ρ D rc t len kd a1 a2 a3 φ N H K l) (ht : t < 6) (hr : rc ≤ rc') (hC : inC t C C') (hD : inD t D D') (hx : HxC C ρ C' ρ') (h9 : ∀ z, ρ.2.2.2.1 = some z → 599 ≤ z) (hc : ∀ x i, 599 ≤ x → ¬ PAc ρ x → (∀ z, ρ.2.2.2.1 = some z → x < z) → C' x i = C x i) : Md C' ρ' D' rc' t len kd a1 a2 a3 φ N H K l := by
  obtain ⟨h1, h2, ⟨g1, g2, g3, g4, g5, g6, g7, g8, g9⟩, h4, h5, ⟨h6, h7, h8⟩, hI⟩ := h
  obtain ⟨k1, k2, k3, k4⟩ := Cat_fr h1 ht hx h9 hc
  have ed : dcd D' t = dcd D t := by
    funext x
    unfold dcd
    by_cases q : x < 18000
    · rw [if_pos q, if_pos q, hD 550 _ (by omega) (by omega) (show t * 18000 ≤ _ by omega) (show _ < (t + 1) * 18000 by omega)]
    · rw [if_neg q, if_neg q]
  have e : ∀ i, C' (92 + 71 * t) i = C (92 + 71 * t) i := fun i => hC _ _ (by omega) (by omega)
  have hb := chd_b (fun i hi => (h2.2.2.2.2.2.1 i hi).2.1) l h6 h7
  have l1 := @nl_le l
  refine ⟨k1, by rw [k2, k3, k4, ed]; exact h2, ⟨by rw [e]; exact g1, by rw [inD_1 hD (by omega)]; exact g2, by rw [e]; exact g3, by rw [e, inD_1 hD (by omega)]; exact g4, by rw [e, inD_1 hD (by omega)]; exact g5, by rw [e, inD_1 hD (by omega)]; exact g6, by rw [e, inD_1 hD (by omega)]; exact g7, by rw [e, inD_1 hD (by omega)]; exact g8, by rw [inD_1 hD (by omega)]; exact g9⟩, Regs_fr h4 hC hD, ?_, ⟨by rw [k2]; exact h6, h7, h8⟩, Ins_fr hI (by omega) hr hC hD⟩
  rw [k3, k4]
  exact Ctl_fr (op := C a1) h5 hb hC hD
/-- back at an instruction -/
theorem Md_Opn {C D : ao_M} {ρ : ao_H} {rc t len kd a1 a2 a3 a : Nat} {φ : Nat → Nat} {N : Ns} {H K : Nat → Nat} {l : List (Nat × Nat)} (h : Md C ρ D rc t len kd a1 a2 a3 φ N H K l) (ha : a ≤ len) (hl : N a = l) (h3 : C (92 + 71 * t) 3 = nI a) (h52 : D 552 t = nI (φ a)) (hS : Stk C D t (H a)) : Opn C ρ D rc t 2 len kd a1 a2 a3 φ N H K a := by
  obtain ⟨h1, h2, ⟨g1, g2, g3, g4, g5, g6, g7, g8, g9⟩, h4, h5, ⟨h6, h7, h8⟩, hI⟩ := h
  subst hl
  exact ⟨h1, h2, Or.inr rfl, g1, g2, g3, g4, g5, g6, h4, ha, h3, h52, hS, h5, fun e => absurd e (by omega), fun _ => ⟨h8, hI, g9, g7, g8⟩⟩
