set_option linter.unusedSimpArgs false
set_option linter.unusedVariables false
section Stb3
variable {C D : ao_M} {ρ σ : ao_H} {kp rc nw bw br t s len kd a1 a2 a3 a : Nat} {φ : Nat → Nat} {N : Ns} {H K : Nat → Nat}
set_option maxHeartbeats 4000000 in
/-- a try around some levels of the block -/
theorem st_fail_lv (hF : Full C ρ D σ kp rc nw bw br) (ht : t < 6) (ho : Opn C ρ D rc t s len kd a1 a2 a3 φ N H K a) (ha : a < len) (h : C a1 a = 20 ∧ dcd D t (3 * φ a) = 19 ∧ H a = 1 ∧ ∀ b, (2, b) ∈ N a → ∀ T, C a2 b = nI T → T ≤ len → K a < K T) (hnt : 1 ≤ nt (N a)) {k : Nat} (hk1 : 1 ≤ k) (hk : k < nl (N a)) (hdn : ∀ b, b < len → nt (N b) + 1 = nt (N a) → (2, b) ∈ N a → nl (N b) = k) :
    hv (fun n => gX2_step n 12 (92 + 71 * t) C ρ) (fun y => hv (fun n => gX12_step n 537 (nI t) D σ) (fun w => GoE nw bw br t len kd a1 a2 a3 φ N H K a y w)) := by
  obtain ⟨i1, i2, i3, i4⟩ := h
  obtain ⟨v, pc, pd⟩ := fail_pre hF ht ho ha ⟨i1, i2, i3⟩
  have es : s = 2 := by
    obtain ⟨-, -, t1, -, -, -, -, -, -, -, -, -, -, -, -, t14, -⟩ := ho
    rcases t1 with es | es
    · have := (t14 es).1; omega
    · exact es
  obtain ⟨hF1, hM1⟩ := mid_of (C1 := ao_u (ao_u C (92 + 71 * t) 3 (nI (a + 1))) (92 + 71 * t) 5 0) (D1 := ao_u D 555 t 0) hF ht ho es (fun x i q1 q2 => by rw [u_ne (by omega), u_ne (by omega)]) (fun x i q1 q2 => u_ne (by omega))
  obtain ⟨hcat, cok, tc⟩ := ho
  obtain ⟨⟨f1, f2, f3, f4⟩, -, -, -, -, -, -, -, -, ⟨-, -, fer⟩, fbw, fbr⟩ := hF
  obtain ⟨b, T, r, y1, y2, y3, y4, y4', y5, y6, y7, y8, y9, y10, y11, y12, y13, y14, y15, y16, y17, y18, y19, y20⟩ := try_of cok tc hnt
  have hbn := hdn b y1 y2 (y4 _ (by simp))
  have hKT := i4 b (y4 _ (by simp)) T y5 y8
  obtain ⟨t1, t2, t3, t4, t5, t6, t7, t8, t9, t10, t11, t12, t13, t14, t15⟩ := tc
  have hR := RnS_of f2 ht
  have hlen := cok.1
  have hrc9 : rc + 260 < 2147483648 := by omega
  have q11 : C (92 + 71 * t) 11 = nI (nt (N b) + 1) := by rw [y2]; exact t13.1
  have q58 : D 558 t = nI (nt (N b) + 1) := by rw [y2]; exact t13.2.1
  obtain ⟨z14, z15, z16, z17⟩ := Cat_b hcat
  obtain ⟨b', o1, o2, o3, o4, o5, o6⟩ := y4' k (by omega) hk
  rw [hbn] at y16 y19
  have hsame : ao_u (ao_u C (92 + 71 * t) 3 (nI (a + 1))) (92 + 71 * t) 5 0 = ao_u (ao_u C (92 + 71 * t) 3 (nI (a + 1))) (92 + 71 * t) 5 0 := rfl
  have cu : ∀ x i, ¬ (x = 92 + 71 * t ∧ (i = 3 ∨ i = 5)) → ao_u (ao_u C (92 + 71 * t) 3 (nI (a + 1))) (92 + 71 * t) 5 0 x i = C x i := fun x i q => by rw [u_ne (by omega), u_ne (by omega)]
  have du : ∀ x i, ¬ (x = 555 ∧ i = t) → ao_u D 555 t 0 x i = D x i := fun x i q => u_ne (by omega)
  clear t1 t12 t13 t14 t15 fer i4 hdn y4'
  generalize ao_u (ao_u C (92 + 71 * t) 3 (nI (a + 1))) (92 + 71 * t) 5 0 = C1 at hF1 hM1 cu pc
  generalize ao_u D 555 t 0 = D1 at hF1 hM1 du pd
  have c81 : C1 (92 + 71 * t) 8 = nI (nl (N a)) := hM1.2.2.2.2.2.2.1
  have w3 : D1 556 t = nI (nl (N a)) := hM1.2.2.1.2.2.2.2.2.2.2.2
  have hl10 : nl (N a) ≤ 10 := by
    have := @nl_le (N a)
    have := hM1.2.2.2.2.2.1.2.1
    omega
  obtain ⟨hcat1, cok1, ⟨v1, v2, v3, v4, v5, v6, v7, v8, v9⟩, -, m5, -, mI⟩ := id hM1
  have ea1 : C1 a1 = C a1 := funext fun i => cu _ _ (by omega)
  have ea2 : C1 a2 = C a2 := funext fun i => cu _ _ (by omega)
  have ea3 : C1 a3 = C a3 := funext fun i => cu _ _ (by omega)
  obtain ⟨e1, e2, e3, -, -, e6, e7, -⟩ := (m5.2.2.2 (0, b') (o4 _ (by simp))).1 rfl
  dsimp only at e1 e2 e3 e6 e7
  rw [o3] at e1 e2 e3 e6 e7
  obtain ⟨-, -, -, -, -, -, BB, rr, mm, q1, -, q3, q4, q5, -, -, -, -⟩ := ins_16 (cok.2.2.2.2.2.2 b' o1) o2
  obtain ⟨Nf, C2, ef, Nt, D2, et, hf⟩ := fold_pair (l := k) (dp := nl (N a)) f2 f4 ht hk hl10 (nI k - 1) (Or.inl rfl) c81 w3 (fun j hj => (mI.2.1 j hj).2.2.2) hF1.2.2.2.2.2.2.1 hrc9
  have hf' := hf
  obtain ⟨rc1, a1', a2', a3', a4', a5', a6', a7', a8'⟩ := hf'
  have c2 : ∀ x i, (x < 92 + 71 * t + 8 ∨ 92 + 71 * t + 68 ≤ x) → C2 x i = C1 x i := fun x i hx => a5' x i (by
    rintro ⟨j, h1, h2⟩
    omega)
  have hee : decide (C2 12 5 = 3 ∨ C2 12 5 = 4) = decide (D1 537 27 = 3 ∨ D1 537 27 = 4) := by rw [c2 _ _ (by omega), hF1.2.2.1.1]
  generalize hE : decide (D1 537 27 = 3 ∨ D1 537 27 = 4) = ee at hf hee a6'
  have hb : hv (fun n => gX2_takeBack n 12 (92 + 71 * t) (nI k) C2 ρ) (fun y => y = cTB ee t k (nl (N a) - k) C2) := c_back (k := k) (dp := nl (N a)) f1 f2 ht hk hl10 C2 (by rw [c2 _ _ (by omega)]; exact c81) (by rw [hee])
  have hRp := Rpl_leave ht (by omega) hF1.2.1 (fun j h1 h2 => (mI.2.1 j (by omega)).2.2.1) hf
  obtain ⟨ffC, ffD⟩ := fold_fr (by omega) hf
  have qd : ∀ x j, 565 ≤ x → x ≤ 574 → j < 12 → D2 x (t * 12 + j) = D x (t * 12 + j) := fun x j h1 h2 h3 => by
    rw [a6' _ _ (by omega) (by omega) (by omega) (by omega) (by omega), dTB_n (by omega) (by omega) (by omega), du _ _ (by omega)]
  have qt : ∀ x, x = 558 ∨ x = 557 ∨ x = 556 → D2 x t = D1 x t := fun x h => by
    rw [a6' _ _ (by omega) (by omega) (by omega) (by omega) (by omega), dTB_n (by omega) (by omega) (by omega)]
  -- as if it had quit level k
  obtain ⟨hfull, hopn⟩ : (∃ rc', Full (ao_u (ao_u (cTB ee t k (nl (N a) - k) C2) (92 + 71 * t) 8 (nI k)) (92 + 71 * t) 3 (nI BB)) ρ (ao_u (ao_u (ao_u (ao_u D2 552 t (nI (φ BB))) 557 t (nI (ns (N b')))) 558 t (nI (nt (N b')))) 556 t (nI k)) σ kp rc' nw bw br ∧ Opn (ao_u (ao_u (cTB ee t k (nl (N a) - k) C2) (92 + 71 * t) 8 (nI k)) (92 + 71 * t) 3 (nI BB)) ρ (ao_u (ao_u (ao_u (ao_u D2 552 t (nI (φ BB))) 557 t (nI (ns (N b')))) 558 t (nI (nt (N b')))) 556 t (nI k)) rc' t 2 len kd a1 a2 a3 φ N H K BB) ∧ True := by
    refine ⟨?_, trivial⟩
    have cn : ∀ x i, ¬ (x = 92 + 71 * t ∧ (i = 3 ∨ i = 8)) → ao_u (ao_u (cTB ee t k (nl (N a) - k) C2) (92 + 71 * t) 8 (nI k)) (92 + 71 * t) 3 (nI BB) x i = cTB ee t k (nl (N a) - k) C2 x i := fun x i q1 => by rw [u_ne (by omega), u_ne (by omega)]
    have dn : ∀ x i, ¬ (i = t ∧ (x = 552 ∨ x = 556 ∨ x = 557 ∨ x = 558)) → ao_u (ao_u (ao_u (ao_u D2 552 t (nI (φ BB))) 557 t (nI (ns (N b')))) 558 t (nI (nt (N b')))) 556 t (nI k) x i = D2 x i := fun x i q1 => by rw [u_ne (by omega), u_ne (by omega), u_ne (by omega), u_ne (by omega)]
    obtain ⟨rc', r1, r2, r3, r4, tc'⟩ := left_ok (C' := ao_u (ao_u (cTB ee t k (nl (N a) - k) C2) (92 + 71 * t) 8 (nI k)) (92 + 71 * t) 3 (nI BB)) (D' := ao_u (ao_u (ao_u (ao_u D2 552 t (nI (φ BB))) 557 t (nI (ns (N b')))) 558 t (nI (nt (N b')))) 556 t (nI k)) (k := k) (dp := nl (N a)) (b := b') (B := BB) ht hk1 hk hl10 cok1 mI hf o3 o1 (fun x hx => m5.2.2.2 x (o4 x (List.mem_cons_of_mem _ hx))) e2 q3 q4 q5 ⟨v1, v2, v3, v4, v5, v6, v7, v8⟩ cn u_eq (by rw [u_n2 (by omega), u_eq]) dn (by simp (disch := omega) only [u_ne, u_eq]) u_eq (by simp (disch := omega) only [u_ne, u_eq]) (by simp (disch := omega) only [u_ne, u_eq])
    have cR2 : ∀ i, i = 2 ∨ i = 15 → cTB ee t k (nl (N a) - k) C2 (92 + 71 * t) i = C1 (92 + 71 * t) i := fun i q => by
      rw [cTB_n (by omega) (by omega) (by omega) (by omega), c2 _ _ (by omega)]
    have d63 : D2 563 t = D1 563 t := by rw [a6' _ _ (by omega) (by omega) (by omega) (by omega) (by omega), dTB_n (by omega) (by omega) (by omega)]
    have c8 : ao_u (ao_u (cTB ee t k (nl (N a) - k) C2) (92 + 71 * t) 8 (nI k)) (92 + 71 * t) 3 (nI BB) (92 + 71 * t) 8 = nI k := by rw [u_n2 (by omega), u_eq]
    generalize ao_u (ao_u (cTB ee t k (nl (N a) - k) C2) (92 + 71 * t) 8 (nI k)) (92 + 71 * t) 3 (nI BB) = C5 at cn tc' r3 r4 c8 ⊢
    generalize ao_u (ao_u (ao_u (ao_u D2 552 t (nI (φ BB))) 557 t (nI (ns (N b')))) 558 t (nI (nt (N b')))) 556 t (nI k) = D5 at dn r2 tc' ⊢
    have hC5 : ∀ x i, x ≠ 14 → ¬ (92 + 71 * t ≤ x ∧ x < 92 + 71 * t + 71) → C5 x i = C1 x i := fun x i q1 q2 => by rw [cn x i (by omega)]; exact ffC x i q1 q2
    have hD5 : ∀ x i, x ≠ 542 → ¬ (x = 537 ∧ i = 64) → ¬ (551 ≤ x ∧ x ≤ 584 ∧ t * wd x ≤ i ∧ i < (t + 1) * wd x) → D5 x i = D1 x i := fun x i q1 q2 q3 => by
      obtain ⟨u1, -⟩ := wd_of q3
      rw [dn x i (by
        rintro ⟨q4, q5⟩
        exact u1 (by omega) q4)]
      exact ffD x i q1 q2 q3
    obtain ⟨c1', c2', c3', c4'⟩ := Cat_loc hcat1 (C' := C5) (fun x i hx => hC5 x i (by omega) (by omega))
    have ed : dcd D5 t = dcd D1 t := dcd_eq (fun i => hD5 _ _ (by omega) (by omega) (by omega))
    have hop : Opn C5 ρ D5 rc' t 2 len kd a1 a2 a3 φ N H K BB := ⟨c1', by rw [c2', c3', c4', ed]; exact cok1, by rw [c3', c4']; exact tc'⟩
    have hT : Thr C5 ρ D5 rc' t := Tc_Thr hop.1 hop.2.1 hop.2.2
    have e8 : dpC C1 t = nl (N a) := by
      unfold dpC
      rw [c81, n_cl (by omega)]
    have e8' : dpC C5 t = k := by
      unfold dpC
      rw [c8, n_cl (by omega)]
    refine ⟨rc', ?_, hop⟩
    exact lk_fin hF1 ht hC5 hD5 (Rpl_cell (k := 0) hRp (fun x i hx => cn x i (by omega)) (fun x i hx => dn x i (by omega))) r2 r1 hT (by rw [cn _ _ (by omega)]; exact cR2 2 (by omega)) (by rw [cn _ _ (by omega)]; exact cR2 15 (by omega)) (by rw [dn _ _ (by omega)]; exact d63) (by rw [e8, e8']; exact r4) (by rw [e8, e8']; exact r3)
  clear hopn
  obtain ⟨rc', hfu, hop⟩ := hfull
  have qC : ∀ x i, 599 ≤ x → cTB ee t k (nl (N a) - k) C2 x i = C x i := fun x i hx => by rw [ffC x i (by omega) (by omega), cu x i (by omega)]
  have qd5 : D2 555 t = 0 := by rw [a6' _ _ (by omega) (by omega) (by omega) (by omega) (by omega), dTB_55]
  have cT5 := (@cTB_a ee t k (nl (N a) - k) C2).2.2
  generalize cTB ee t k (nl (N a) - k) C2 = C3 at hfu hop hb qC cT5
  have fin : GoE nw bw br t len kd a1 a2 a3 φ N H K a (-1, ao_u (ao_u (ao_u (ao_u C3 (92 + 71 * t) 8 (nI k)) (92 + 71 * t) 11 (nI (nt (N b)))) (92 + 71 * t + 6) r v) (92 + 71 * t) 3 (nI T), ρ) (-1, ao_u (ao_u (ao_u (ao_u (ao_u D2 556 t (nI k)) 558 t (nI (nt (N b)))) 557 t (nI (ns (N b)))) 552 t (nI (φ T))) 553 (t * 26 + r) v, σ) := by
    refine ⟨rfl, rfl, kp, rc', 2, T, hKT, ?_⟩
    refine catch_go (b := b) (T := T) (r := r) (v := v) hfu ht hop (fun e he => by rw [q4]; exact o6 e he) (by rw [q4, o3, hbn]) y8 y9 y10 y7 (fun x i q1 q2 q3 => ?_) (fun x i q1 q2 q3 => ?_) ?_ ?_ ?_ ?_ ?_ ?_ ?_ ?_ ?_
    · dsimp only
      by_cases e : x = 92 + 71 * t ∧ i = 8
      · obtain ⟨rfl, rfl⟩ := e
        simp (disch := omega) only [u_ne, u_eq]
      · simp (disch := omega) only [u_ne]
    · dsimp only
      by_cases e : x = 556 ∧ i = t
      · obtain ⟨rfl, rfl⟩ := e
        simp (disch := omega) only [u_ne, u_eq]
      · simp (disch := omega) only [u_ne]
    · dsimp only
      simp (disch := omega) only [u_ne, u_eq]
    · dsimp only
      simp (disch := omega) only [u_ne, u_eq]
      exact cT5
    · dsimp only
      simp (disch := omega) only [u_ne, u_eq]
    · dsimp only
      simp (disch := omega) only [u_ne, u_eq]
    · dsimp only
      simp (disch := omega) only [u_ne, u_eq]
    · dsimp only
      simp (disch := omega) only [u_ne, u_eq]
      exact qd5
    · dsimp only
      simp (disch := omega) only [u_ne, u_eq]
    · dsimp only
      simp (disch := omega) only [u_ne, u_eq]
    · dsimp only
      simp (disch := omega) only [u_ne, u_eq]
  clear hfu hop hRp ffC ffD hf a1' a2' a3' a4' a5' a6' a7' a8' mI m5 cok1 hcat1 hM1 hF1 o4 o6 y4 cok c2
  have r11 : C1 (92 + 71 * t) 11 = nI (nt (N b) + 1) := by rw [cu _ _ (by omega)]; exact q11
  have r15 : C1 (92 + 71 * t + 68) (nt (N b)) = nI b := by rw [cu _ _ (by omega)]; exact y15
  have r16 : C1 (92 + 71 * t + 69) (nt (N b)) = nI k := by rw [cu _ _ (by omega)]; exact y16
  refine pc _ ?_
  unfold gX2_fail
  refine hv_up (fun _ => fX2_fail.eq_2 ..) ?_
  try simp only [↓reduceIte, Nat.reduceEqDiff, Option.bind_some, ao_let, n_ell, hR, r11, Nat.add_sub_cancel, gX7_tryAtOf, gX7_tryDepthOf, r15, r16, f1]
  try simp (disch := first | omega | assumption) only [↓reduceIte, Nat.reduceEqDiff, Option.bind_some, ao_let, t_le, f_le, t_lt, f_lt, f_eq, u_eq, u_n1, u_n2, n_cl, n_lt, n_le, n_eq, n_ltl, n_llt, n_lel, n_lle, n_eql, n_leq, n_add, n_mul, n_sub, n_addl, n_ladd, n_mull, n_lmul, n_subl, Int32.reduceLT, Int32.reduceLE, Int32.reduceAdd, Int32.reduceSub, Int32.reduceMul, Int32.reduceToNatClampNeg, not_false_eq_true, not_true_eq_false, or_false, false_or, or_self, and_self, false_and, true_and, and_false, and_true, true_or, or_true, Nat.reduceAdd, Nat.reduceMul, Nat.reduceLT, Nat.reduceLeDiff, ne_eq, n_ell, hR, r11, Nat.add_sub_cancel, gX7_tryAtOf, gX7_tryDepthOf, r15, r16, f1]
  refine hv_bind (P := fun y => y = (ao_u C3 (92 + 71 * t) 8 (nI k), ρ)) ?_ ?_
  · clear fin
    unfold gX2_leaveFrom
    refine hv_up (fun _ => fX2_leaveFrom.eq_2 ..) ?_
    have hk0 : (nI k = 0) = False := by
      rw [n_eql (by omega) (by decide)]
      exact eq_false (by omega)
    simp (disch := omega) only [↓reduceIte, n_ltl, f_lt, hR, c81, n_lt, t_lt, hk]
    refine hv_bind (P := fun y => C2 = y) ⟨Nf, _, ef, rfl⟩ ?_
    rintro _ rfl
    simp only [f1, ↓reduceIte]
    refine hv_bind (P := fun y => C3 = y) (hv_mono hb (fun _ h => h.symm)) ?_
    rintro _ rfl
    simp only [ao_let, hk0, ↓reduceIte]
    exact hv_some rfl
  rintro _ rfl
  dsimp only
  have hcat3 : Cat (ao_u C3 (92 + 71 * t) 8 (nI k)) ρ t len kd a1 a2 a3 := (Cat_loc hcat (fun x i hx => by rw [u_n1 (by omega)]; exact qC x i hx)).1
  refine c_catch (T := T) (r := r) (i := nt (N b)) (b := b) f2 ht hcat3 hlen y1 y7 (by rw [u_n1 (by omega), qC _ _ (by omega)]; exact y5) (by rw [u_n1 (by omega), qC _ _ (by omega)]; exact y6) (pd _ ?_)
  generalize GoE nw bw br t len kd a1 a2 a3 φ N H K a (-1, ao_u (ao_u (ao_u (ao_u C3 (92 + 71 * t) 8 (nI k)) (92 + 71 * t) 11 (nI (nt (N b)))) (92 + 71 * t + 6) r v) (92 + 71 * t) 3 (nI T), ρ) = P at fin ⊢
  have s58 : D1 558 t = nI (nt (N b) + 1) := by rw [du _ _ (by omega)]; exact q58
  have s68 : D1 568 (t * 12 + nt (N b)) = nI k := by rw [du _ _ (by omega)]; exact y19
  have d76 : ∀ {x4 : Int32}, hv (fun n => fX12_fail n 76 537 (nI t) v (nI k) x4 0 (ao_u D2 556 t (nI k)) σ) P := by
    intro x4
    refine d_catch (i := nt (N b)) (q := φ T) (n1 := ns (N b)) (r := r) f4 ht (by omega) y7 ?_ ?_ ?_ ?_ fin
    · rw [u_n1 (by omega), qt _ (by omega)]; exact s58
    · rw [u_n1 (by omega), qd _ _ (by omega) (by omega) (by omega)]; exact y17
    · rw [u_n1 (by omega), qd _ _ (by omega) (by omega) (by omega)]; exact y18
    · rw [u_n1 (by omega), qd _ _ (by omega) (by omega) (by omega)]; exact y20
  clear fin pc pd ef hb qC
  unfold gX12_fail
  refine hv_up (fun _ => fX12_fail.eq_2 ..) ?_
  try simp only [↓reduceIte, Nat.reduceEqDiff, Option.bind_some, ao_let, n_ell, f4, s58, gX12_level, Nat.add_sub_cancel, s68]
  try simp (disch := first | omega | assumption) only [↓reduceIte, Nat.reduceEqDiff, Option.bind_some, ao_let, t_le, f_le, t_lt, f_lt, f_eq, u_eq, u_n1, u_n2, n_cl, n_lt, n_le, n_eq, n_ltl, n_llt, n_lel, n_lle, n_eql, n_leq, n_add, n_mul, n_sub, n_addl, n_ladd, n_mull, n_lmul, n_subl, Int32.reduceLT, Int32.reduceLE, Int32.reduceAdd, Int32.reduceSub, Int32.reduceMul, Int32.reduceToNatClampNeg, not_false_eq_true, not_true_eq_false, or_false, false_or, or_self, and_self, false_and, true_and, and_false, and_true, true_or, or_true, Nat.reduceAdd, Nat.reduceMul, Nat.reduceLT, Nat.reduceLeDiff, ne_eq, n_ell, f4, s58, gX12_level, Nat.add_sub_cancel, s68]
  refine hv_up (fun _ => fX12_fail.eq_2 ..) ?_
  try simp only [↓reduceIte, Nat.reduceEqDiff, Option.bind_some, ao_let, n_ell, f4, w3]
  try simp (disch := first | omega | assumption) only [↓reduceIte, Nat.reduceEqDiff, Option.bind_some, ao_let, t_le, f_le, t_lt, f_lt, f_eq, u_eq, u_n1, u_n2, n_cl, n_lt, n_le, n_eq, n_ltl, n_llt, n_lel, n_lle, n_eql, n_leq, n_add, n_mul, n_sub, n_addl, n_ladd, n_mull, n_lmul, n_subl, Int32.reduceLT, Int32.reduceLE, Int32.reduceAdd, Int32.reduceSub, Int32.reduceMul, Int32.reduceToNatClampNeg, not_false_eq_true, not_true_eq_false, or_false, false_or, or_self, and_self, false_and, true_and, and_false, and_true, true_or, or_true, Nat.reduceAdd, Nat.reduceMul, Nat.reduceLT, Nat.reduceLeDiff, ne_eq, n_ell, f4, w3]
  refine hv_up (fun _ => fX12_fail.eq_2 ..) ?_
  simp only [↓reduceIte, Nat.reduceEqDiff, f4]
  refine hv_bind (P := fun y => D2 = y) ⟨Nt, _, et, rfl⟩ ?_
  rintro _ rfl
  have hne' : (nI k = 0) = False := by
    rw [n_eql (by omega) (by decide)]
    exact eq_false (by omega)
  have := @d76 1
  clear d76
  try simp only [↓reduceIte, Nat.reduceEqDiff, Option.bind_some, ao_let, n_ell, f4, hne', show ((1 : Int32) = 0) = False from by decide]
  try simp (disch := first | omega | assumption) only [↓reduceIte, Nat.reduceEqDiff, Option.bind_some, ao_let, t_le, f_le, t_lt, f_lt, f_eq, u_eq, u_n1, u_n2, n_cl, n_lt, n_le, n_eq, n_ltl, n_llt, n_lel, n_lle, n_eql, n_leq, n_add, n_mul, n_sub, n_addl, n_ladd, n_mull, n_lmul, n_subl, Int32.reduceLT, Int32.reduceLE, Int32.reduceAdd, Int32.reduceSub, Int32.reduceMul, Int32.reduceToNatClampNeg, not_false_eq_true, not_true_eq_false, or_false, false_or, or_self, and_self, false_and, true_and, and_false, and_true, true_or, or_true, Nat.reduceAdd, Nat.reduceMul, Nat.reduceLT, Nat.reduceLeDiff, ne_eq, n_ell, f4, hne', show ((1 : Int32) = 0) = False from by decide]
  exact this
end Stb3
