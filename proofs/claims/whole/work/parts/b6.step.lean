set_option linter.unusedSimpArgs false
set_option linter.unusedVariables false
/-! ===== one step, of all kinds ===== -/
section Stb6
variable {C D : ao_M} {ρ σ : ao_H} {kp rc nw bw br t s len kd a1 a2 a3 a : Nat} {φ : Nat → Nat} {N : Ns} {H K : Nat → Nat}
/-- both go on further, or both have an answer -/
def StP (n bw br t len kd a1 a2 a3 : Nat) (φ : Nat → Nat) (N : Ns) (H K : Nat → Nat) (a : Nat) (y w : Int32 × ao_S) : Prop := GoE (2 * n) bw br t len kd a1 a2 a3 φ N H K a y w ∨ ∃ nw, nw / 2 = n ∧ EndE nw (bw + 1) (br + 11) y w
theorem StP_go {n : Nat} {y w : Int32 × ao_S} (h : GoP kp rc (2 * n) bw br t s len kd a1 a2 a3 φ N H K a y w) : StP n bw br t len kd a1 a2 a3 φ N H K a y w := by
  obtain ⟨h1, h2, a', h3, h4, h5⟩ := h
  exact Or.inl ⟨h1, h2, kp, rc, s, a', h3, h4, h5⟩
theorem StP_en {n nw' bw' br' : Nat} {y w : Int32 × ao_S} (h : EndP kp rc nw' bw' br' y w) (hn : nw' / 2 = n) (h1 : bw' ≤ bw + 1) (h2 : br' ≤ br + 11) (h3 : bw + 1 ≤ 28000) (h4 : br + 11 ≤ 100000000) : StP n bw br t len kd a1 a2 a3 φ N H K a y w := by
  obtain ⟨e1, e2, e3⟩ := h
  exact Or.inr ⟨nw', hn, kp, rc, e1, e2, Full_br e3 h1 h2 h3 h4⟩
theorem StP_ee {n bw' br' : Nat} {y w : Int32 × ao_S} (h : EndE (2 * n) bw' br' y w) (h1 : bw' ≤ bw + 1) (h2 : br' ≤ br + 11) (h3 : bw + 1 ≤ 28000) (h4 : br + 11 ≤ 100000000) : StP n bw br t len kd a1 a2 a3 φ N H K a y w := by
  obtain ⟨kp', rc', h⟩ := h
  exact StP_en h (by omega) h1 h2 h3 h4
theorem st_fail (hF : Full C ρ D σ kp rc nw bw br) (ht : t < 6) (ho : Opn C ρ D rc t s len kd a1 a2 a3 φ N H K a) (ha : a < len) (h : C a1 a = 20 ∧ dcd D t (3 * φ a) = 19 ∧ H a = 1 ∧ ∀ b, (2, b) ∈ N a → ∀ T, C a2 b = nI T → T ≤ len → K a < K T) :
    hv (fun n => gX2_step n 12 (92 + 71 * t) C ρ) (fun y => hv (fun n => gX12_step n 537 (nI t) D σ) (fun w => GoE nw bw br t len kd a1 a2 a3 φ N H K a y w ∨ EndE nw bw br y w)) := by
  by_cases hnt : nt (N a) = 0
  · by_cases hnl : nl (N a) = 0
    · have es : s = 1 := by
        obtain ⟨-, -, t1, -, -, -, -, -, -, -, -, -, -, -, -, -, t15⟩ := ho
        rcases t1 with es | es
        · exact es
        · have := (t15 es).1; omega
      exact hv_mono (st_dead1 hF ht ho ha ⟨h.1, h.2.1, h.2.2.1⟩ es hnt) (fun y hy => hv_mono hy (fun w hw => Or.inr hw))
    · exact st_fail_out hF ht ho ha h (by omega) (fun b h1 h2 h3 => by omega)
  · have hka := ho.2.1.2.2.2.2.2.1 a (by omega)
    have hlen0 := ho.2.1.1
    obtain ⟨b, g1, g2, g3, g4, g5, g6⟩ := try_at (N a) hka.2.2.2 (by omega)
    -- the try that catches is the only one of its number
    have huni : ∀ b', b' < len → nt (N b') + 1 = nt (N a) → (2, b') ∈ N a → b' = b := by
      intro b' h1 h2 h3
      obtain ⟨-, -, -, -, -, -, -, -, -, -, -, -, -, -, t13, -⟩ := ho
      obtain ⟨e1, -⟩ := (t13.2.2.2 (2, b') h3).2.2 rfl
      obtain ⟨e2, -⟩ := (t13.2.2.2 (2, b) (g5 _ (by simp))).2.2 rfl
      dsimp only at e1 e2
      rw [show nt (N b') = nt (N b) by omega, e2] at e1
      have hlen := hlen0
      have := (n_eq (show b < 2147483648 by omega) (show b' < 2147483648 by omega)).mp e1
      omega
    by_cases e1 : nl (N b) = nl (N a)
    · exact hv_mono (st_fail_in hF ht ho ha h (by omega) (fun b' h1 h2 h3 => by rw [huni b' h1 h2 h3]; exact e1)) (fun y hy => hv_mono hy (fun w hw => Or.inl hw))
    · by_cases e2 : nl (N b) = 0
      · exact st_fail_out hF ht ho ha h (by omega) (fun b' h1 h2 h3 => by rw [huni b' h1 h2 h3]; exact e2)
      · exact hv_mono (st_fail_lv hF ht ho ha h (by omega) (k := nl (N b)) (by omega) (by omega) (fun b' h1 h2 h3 => by rw [huni b' h1 h2 h3])) (fun y hy => hv_mono hy (fun w hw => Or.inl hw))
theorem step_all {n : Nat} (hF : Full C ρ D σ kp rc (2 * n) bw br) (ht : t < 6) (ho : Opn C ρ D rc t s len kd a1 a2 a3 φ N H K a) (hbw : bw + 1 ≤ 28000) (hbr : br + 11 ≤ 100000000) :
    hv (fun n => gX2_step n 12 (92 + 71 * t) C ρ) (fun y => Rs t D σ (fun w => StP n bw br t len kd a1 a2 a3 φ N H K a y w)) := by
  have hal : a ≤ len := ho.2.2.2.2.2.2.2.2.2.2.1
  have go : hv (fun n => gX2_step n 12 (92 + 71 * t) C ρ) (fun y => hv (fun n => gX12_step n 537 (nI t) D σ) (fun w => GoP kp rc (2 * n) bw br t s len kd a1 a2 a3 φ N H K a y w)) → hv (fun n => gX2_step n 12 (92 + 71 * t) C ρ) (fun y => Rs t D σ (fun w => StP n bw br t len kd a1 a2 a3 φ N H K a y w)) := fun h => hv_mono h (fun y hy => Or.inl (hv_mono hy (fun w hw => StP_go hw)))
  have en : hv (fun n => gX2_step n 12 (92 + 71 * t) C ρ) (fun y => hv (fun n => gX12_step n 537 (nI t) D σ) (fun w => EndP kp rc (2 * n) bw br y w)) → hv (fun n => gX2_step n 12 (92 + 71 * t) C ρ) (fun y => Rs t D σ (fun w => StP n bw br t len kd a1 a2 a3 φ N H K a y w)) := fun h => hv_mono h (fun y hy => Or.inl (hv_mono hy (fun w hw => StP_en hw (by omega) (by omega) (by omega) hbw hbr)))
  have ee : ∀ {bw' br' : Nat}, bw' ≤ bw + 1 → br' ≤ br + 11 → hv (fun n => gX2_step n 12 (92 + 71 * t) C ρ) (fun y => hv (fun n => gX12_step n 537 (nI t) D σ) (fun w => EndE (2 * n) bw' br' y w)) → hv (fun n => gX2_step n 12 (92 + 71 * t) C ρ) (fun y => Rs t D σ (fun w => StP n bw br t len kd a1 a2 a3 φ N H K a y w)) := fun h1 h2 h => hv_mono h (fun y hy => Or.inl (hv_mono hy (fun w hw => StP_ee hw h1 h2 hbw hbr)))
  by_cases hae : a = len
  · subst hae
    exact en (st_stop hF ht ho)
  have ha : a < len := by omega
  have hs := ho.2.2.1
  have h0 : s = 1 → nl (N a) = 0 := fun e => (ho.2.2.2.2.2.2.2.2.2.2.2.2.2.2.2.1 e).1
  have h1 : s = 2 → 1 ≤ nl (N a) := fun e => (ho.2.2.2.2.2.2.2.2.2.2.2.2.2.2.2.2 e).1
  have hnow : C 12 6 = nI n ∧ D 537 65 = nI n := by
    obtain ⟨-, -, ⟨-, -, fX⟩, -⟩ := hF
    obtain ⟨-, -, -, -, x1, x2, -⟩ := fX
    rw [show 2 * n / 2 = n by omega] at x1 x2
    exact ⟨x1, x2⟩
  rcases ho.2.1.2.2.2.2.2.2 a ha with h | h | h | h | h | h | h | h | h | h | h | h | h | h | h | h | h | h | h | h
  · exact go (st_number hF ht ho ha h)
  · exact go (st_get hF ht ho ha h)
  · rcases hs with e | e
    · exact en (st_see1 hF ht ho ha h e)
    · exact ee (by omega) (by omega) (st_see2 hF ht ho ha h e hbr)
  · obtain ⟨h2, h3, h4⟩ := h
    rcases h2 with ⟨e1, e2⟩ | ⟨e1, e2⟩ | ⟨e1, e2⟩ | ⟨e1, e2⟩ | ⟨e1, e2⟩
    · exact go (st_add hF ht ho ha ⟨e1, e2, h3, h4⟩)
    · exact go (st_sub hF ht ho ha ⟨e1, e2, h3, h4⟩)
    · exact go (st_mul hF ht ho ha ⟨e1, e2, h3, h4⟩)
    · exact go (st_eq hF ht ho ha ⟨e1, e2, h3, h4⟩)
    · exact go (st_lt hF ht ho ha ⟨e1, e2, h3, h4⟩)
  · exact go (st_neg hF ht ho ha h)
  · exact go (st_set hF ht ho ha h)
  · rcases hs with e | e
    · refine hv_mono (st_write1 hF ht ho ha h e hbw) (fun y hy => Or.inl (hv_mono hy (fun w hw => StP_en hw (by omega) (by omega) (by omega) hbw hbr)))
    · exact ee (by omega) (by omega) (st_write2 hF ht ho ha h e hbw)
  · exact go (st_jump hF ht ho ha h)
  · exact go (st_unless hF ht ho ha h)
  · by_cases hz : C (92 + 71 * t + 5) 0 = 0
    · exact go (st_again0 hF ht ho ha h hz)
    · refine hv_mono (st_again1 hF ht ho ha h hz) (fun y hy => Or.inr ?_)
      obtain ⟨w, w1, w2, w3⟩ := hy
      exact ⟨w, w1, w2, hv_mono w3 (fun w hw => StP_en hw (by omega) (by omega) (by omega) hbw hbr)⟩
  · rcases hs with e | e
    · exact en (st_say1 hF ht ho ha h e)
    · exact en (st_say2 hF ht ho ha h e)
  · rcases hs with e | e
    · refine hv_mono (st_begin1 hF ht ho ha h e hnow.1 hnow.2) (fun y hy => Or.inl (hv_mono hy (fun w hw => StP_en hw (by omega) (by omega) (by omega) hbw hbr)))
    · exact go (st_begin2 hF ht ho ha h e)
  · by_cases h2 : 2 ≤ nl (N a)
    · refine hv_mono (st_close2 hF ht ho ha h h2) (fun y hy => ?_)
      rcases hy with hy | ⟨w, w1, w2, w3⟩
      · refine Or.inl (hv_mono hy ?_)
        rintro w ⟨rc', hw⟩
        exact StP_go hw
      · refine Or.inr ⟨w, w1, w2, hv_mono w3 ?_⟩
        rintro w ⟨rc', hw⟩
        exact StP_go hw
    · have hn1 : nl (N a) = 1 := by
        obtain ⟨-, -, -, b, B, hNa, -⟩ := h
        rw [hNa, nl_c0] at h2 ⊢
        omega
      exact ee (by omega) (by omega) (st_close1 hF ht ho ha h hn1)
  · exact ee (by omega) (by omega) (st_retry hF ht ho ha h)
  · obtain ⟨e1, e2, e3, e4⟩ := h
    by_cases h2 : 2 ≤ nl (N a)
    · refine hv_mono (st_quit2 hF ht ho ha ⟨e1, e2, e3⟩ h2) (fun y hy => Or.inl (hv_mono hy ?_))
      rintro w ⟨rc', hw⟩
      exact StP_en hw (by omega) (by omega) (by omega) hbw hbr
    · exact ee (by omega) (by omega) (st_quit1 hF ht ho ha ⟨e1, e2, e3⟩ (by omega))
  · refine hv_mono (st_fail hF ht ho ha h) (fun y hy => Or.inl (hv_mono hy ?_))
    rintro w (hw | hw)
    · exact Or.inl hw
    · exact StP_ee hw (by omega) (by omega) hbw hbr
  · exact go (st_try hF ht ho ha h)
  · refine hv_mono (st_tried hF ht ho ha h) (fun y hy => Or.inr ?_)
    obtain ⟨w, w1, w2, w3⟩ := hy
    exact ⟨w, w1, w2, hv_mono w3 (fun w hw => StP_go hw)⟩
  · exact go (st_nb hF ht ho ha h)
  · exact go (st_ne hF ht ho ha h)
end Stb6
