set_option linter.unusedSimpArgs false
set_option linter.unusedVariables false
section Ccf6
variable {C D : ao_M} {ρ σ : ao_H} {k : Nat}
set_option maxHeartbeats 8000000 in
theorem j_node (hc : ShA ρ) (hg : ShG ρ) (hs : ShD σ) : ∀ (r d : Nat), d + r = k → ∀ (e : Nat) (pl : Int32) (τ : Nat) (C D : ao_M), r ≤ e → Jv k d pl τ C D → D 595 d = 0 → hv (fun a => fGT a e (if d = k then 40 else 58) 518 25 13 (nI d) pl 0 0 0 C ρ) (JO σ k d pl C D (fun Q => hv (fun a => fX12_judge a 81 537 (nI τ) (nI d) 0 0 0 0 0 D σ) Q)) := by
  intro r
  induction r with
  | zero =>
    intro d hd e pl τ C D _ h h95
    obtain rfl : d = k := by omega
    exact j_leaf hc hg hs h h95
  | succ r ih =>
    intro d hd e pl τ C D he h h95
    have hdk : d < k := by omega
    have hk14 : k ≤ 14 := h.1.1.1
    -- the loop over records
    have B : ∀ (s j : Nat), j + s = k → ∀ (τ : Nat) (C D : ao_M), Jv k d pl τ C D → hv (fun a => fGT a e 58 518 25 13 (nI d) pl (nI j) 0 0 C ρ) (JO σ k d pl C D (fun Q => hv (fun a => fX12_judge a 115 537 (nI τ) (nI d) (nI j) 0 0 0 0 D σ) Q)) := by
      intro s
      induction s with
      | zero =>
        intro j hj τ C D h
        obtain rfl : j = k := by omega
        have a2 := h.1.1.2.1
        have a3 := h.1.1.2.2
        refine hv_mono (c_lst hc hk14 hdk a2) ?_
        rintro _ rfl
        exact ⟨FxC_rf, Or.inr (Or.inr ⟨rfl, D, τ, h, FxD_rf, rfl, fun _ _ => ⟨rfl, rfl⟩, fun Q hQ => d_lst hs hk14 hdk a3 hQ⟩)⟩
      | succ s ihs =>
        intro j hj τ C D h
        have hjk : j < k := by omega
        have a3 := h.1.1.2.2
        have hmD := d_mc (σ := σ) hs h hjk
        refine c_58 hc hg h hdk hjk (fun no => ?_) (fun yes => ?_)
        · refine hv_mono (ihs (j + 1) (by omega) τ C D h) (fun y hy => JO_tr hy FxC_rf FxD_rf rfl (fun _ _ => ⟨rfl, rfl⟩) (fun Q hQ => ?_))
          refine d_115n hs hjk hdk hk14 a3 (hv_mono hmD ?_) hQ
          rintro y (⟨-, q⟩ | ⟨q, -⟩)
          · exact absurd q no
          · exact q
        · -- it may come
          obtain ⟨hJK, h2, h3, h4, h5, h6, h7, h8⟩ := id h
          obtain ⟨⟨a1, a2, -⟩, a4, a5, a6, a7⟩ := id hJK
          obtain ⟨b1, b2, b3, b4, b5, b6, b7⟩ := a4 j hjk
          have eC2 : ∀ x i, x ≠ 519 → x ≠ 521 + (d + 1) → ao_cp (ao_u C 519 d (nI j)) (521 + d) (521 + (d + 1)) 0 0 26 x i = C x i := fun x i q1 q2 => by rw [cp_n q2, u_n1 q1]
          have eR : ∀ p, p < 26 → ao_cp (ao_u C 519 d (nI j)) (521 + d) (521 + (d + 1)) 0 0 26 (521 + (d + 1)) p = C (521 + d) p := fun p hp => by rw [cp_e hp, u_n1 (by omega)]
          have eS : ∀ i, ao_cp (ao_u C 519 d (nI j)) (521 + d) (521 + (d + 1)) 0 0 26 519 i = ao_u C 519 d (nI j) 519 i := fun i => cp_n (by omega)
          generalize ao_cp (ao_u C 519 d (nI j)) (521 + d) (521 + (d + 1)) 0 0 26 = C2 at *
          refine hv_bind (c_apl (D := D) hc hg (show j < 14 by omega) (show d + 1 < 15 by omega) (by rw [eC2 _ _ (by omega) (by omega)]; exact b4) (RecL_mv b7 (fun n => ⟨eC2 _ _ (by omega) (by omega), eC2 _ _ (by omega) (by omega)⟩) (fun n => ⟨rfl, rfl⟩))) ?_
          rintro C3 ⟨g1, g2⟩
          have eC3 : ∀ x i, x ≠ 519 → x ≠ 521 + (d + 1) → C3 x i = C x i := fun x i q1 q2 => by rw [g1 x i (by omega), eC2 x i q1 q2]
          have e4 : C3 518 4 = nI τ := by rw [eC3 _ _ (by omega) (by omega)]; exact h4
          have e9 : C3 25 9 = nI k := by rw [eC3 _ _ (by omega) (by omega)]; exact a2
          have fC3 : FxC C C3 := fun x i q1 q2 q3 => eC3 x i q2 (by omega)
          have e0 : (0 < e) = True := eq_true (by omega)
          simp only [e0, ↓reduceIte]
          by_cases ht : τ < 20000
          · -- both go on
            obtain ⟨D2, k1, k2, k3⟩ := d_rowL (σ := σ) (d := d) (j := j) (x1 := nI (τ + 1)) hs (by omega) (by omega) 26 0 (ao_u (ao_u (ao_u D 595 d (nI (j + 1))) 594 d (nI j)) 597 j 1) rfl
            have eD : ∀ x i, x < 594 → ao_u D2 595 (d + 1) 0 x i = D x i := fun x i q => by rw [u_ne (by omega), k2 x i (by omega), u_ne (by omega), u_ne (by omega), u_ne (by omega)]
            have e94 : ∀ i, ao_u D2 595 (d + 1) 0 594 i = if i = d then nI j else D 594 i := fun i => by
              rw [u_ne (by omega), k2 _ _ (by omega), u_ne (by omega)]
              by_cases q : i = d
              · subst q; rw [u_eq, if_pos rfl]
              · rw [u_ne (by omega), u_ne (by omega), if_neg q]
            have e95 : ∀ i, i ≤ d → ao_u D2 595 (d + 1) 0 595 i = if i = d then nI (j + 1) else D 595 i := fun i hi => by
              rw [u_ne (by omega), k2 _ _ (by omega), u_ne (by omega), u_ne (by omega)]
              by_cases q : i = d
              · subst q; rw [u_eq, if_pos rfl]
              · rw [u_ne (by omega), if_neg q]
            have e97 : ∀ i, ao_u D2 595 (d + 1) 0 597 i = if i = j then 1 else D 597 i := fun i => by
              rw [u_ne (by omega), k2 _ _ (by omega)]
              by_cases q : i = j
              · subst q; rw [u_eq, if_pos rfl]
              · rw [u_ne (by omega), u_ne (by omega), u_ne (by omega), if_neg q]
            have e96 : ∀ d' p, d' ≤ d → p < 26 → ao_u D2 595 (d + 1) 0 596 (d' * 26 + p) = D 596 (d' * 26 + p) := fun d' p q1 q2 => by
              rw [u_ne (by omega), k2 _ _ (by omega), u_ne (by omega), u_ne (by omega), u_ne (by omega)]
            have e96' : ∀ p, p < 26 → ao_u D2 595 (d + 1) 0 596 ((d + 1) * 26 + p) = if D 593 (j * 26 + p) = 0 then D 596 (d * 26 + p) else D 591 (j * 26 + p) := fun p hp => by
              rw [u_ne (by omega), k1 p (by omega) hp, u_ne (by omega), u_ne (by omega), u_ne (by omega), u_ne (by omega), u_ne (by omega), u_ne (by omega), u_ne (by omega), u_ne (by omega), u_ne (by omega)]
            have e95' : ao_u D2 595 (d + 1) 0 595 (d + 1) = 0 := u_eq
            have fD : FxD D (ao_u D2 595 (d + 1) 0) := fun x i q1 q2 => by
              by_cases q : x < 594
              · exact eD x i q
              · rw [u_ne (by omega), k2 x i (by omega), u_ne (by omega), u_ne (by omega), u_ne (by omega)]
            have e82 : ao_u D2 595 (d + 1) 0 537 82 = D 537 82 := eD _ _ (by omega)
            generalize ao_u D2 595 (d + 1) 0 = D3 at *
            -- the reference comes to the next length
            have run : ∀ Q, hv (fun a => fX12_judge a 81 537 (nI (τ + 1)) (nI (d + 1)) 0 0 0 0 0 D3 σ) Q → hv (fun a => fX12_judge a 115 537 (nI τ) (nI d) (nI j) 0 0 0 0 D σ) Q := by
              intro Q hQ
              refine d_115y hs hjk hdk hk14 ht a3 (hv_mono hmD ?_) (k3 Q hQ)
              rintro y (⟨q, -⟩ | ⟨-, q⟩)
              · exact q
              · exact absurd yes q
            -- the class comes there
            have C4 : ∀ x i, ¬ (x = 518 ∧ i = 4) → ao_u C3 518 4 (nI (τ + 1)) x i = C3 x i := fun x i q => u_ne (by omega)
            have fC4 : FxC C (ao_u C3 518 4 (nI (τ + 1))) := fun x i q1 q2 q3 => by rw [C4 x i q1]; exact fC3 x i q1 q2 q3
            have hJ : Jv k (d + 1) (pl ||| ((1 : Int32) <<< (nI j &&& 31))) (τ + 1) (ao_u C3 518 4 (nI (τ + 1))) D3 := by
              refine ⟨JK_mv hJK fC4 fD, by omega, by omega, u_eq, fun d' q1 p hp => ?_, fun i hi => ?_, ?_, fun d' q1 => ?_⟩
              · rw [C4 _ _ (by omega)]
                by_cases q : d' = d + 1
                · subst q
                  rw [e96' p hp]
                  rcases (b5 p hp).2 with z | z
                  · rw [if_pos z, (g2 p hp).2 (by rw [z]; decide), eR p hp]
                    exact h5 d (Nat.le_refl _) p hp
                  · rw [if_neg (by rw [z]; decide), (g2 p hp).1 z]
                · rw [eC3 _ _ (by omega) (by omega), e96 d' p (by omega) hp]
                  exact h5 d' (by omega) p hp
              · rw [e97 i, bt_or pl (show i < 26 by omega) (show j < 26 by omega)]
                by_cases q : i = j
                · subst q
                  rw [if_pos rfl, decide_eq_true rfl, Bool.or_true, if_pos rfl]
                · rw [if_neg q, decide_eq_false q, Bool.or_false]
                  exact h6 i hi
              · rw [cnt_add hk14 hjk yes.1, h7]
              · by_cases q : d' = d
                · subst q
                  refine ⟨j, hjk, ?_, ?_⟩
                  · rw [C4 _ _ (by omega), g1 _ _ (by omega), eS, u_eq]
                  · rw [e94, if_pos rfl]
                · obtain ⟨o, o1, o2, o3⟩ := h8 d' (by omega)
                  refine ⟨o, o1, ?_, ?_⟩
                  · rw [C4 _ _ (by omega), g1 _ _ (by omega), eS, u_ne (by omega)]; exact o2
                  · rw [e94, if_neg q]; exact o3
            have hch := ih (d + 1) (by omega) (e - 1) (pl ||| ((1 : Int32) <<< (nI j &&& 31))) (τ + 1) (ao_u C3 518 4 (nI (τ + 1))) D3 (by omega) hJ e95'
            have ent : hv (fun a => fGT a (e - 1) 0 518 25 13 (nI (d + 1)) (pl ||| ((1 : Int32) <<< (nI j &&& 31))) 0 0 0 C3 ρ) (JO σ k (d + 1) (pl ||| ((1 : Int32) <<< (nI j &&& 31))) (ao_u C3 518 4 (nI (τ + 1))) D3 (fun Q => hv (fun a => fX12_judge a 81 537 (nI (τ + 1)) (nI (d + 1)) 0 0 0 0 0 D3 σ) Q)) := by
              exact c_ent hc hk14 hdk ht e4 e9 hch
            refine hv_bind ent ?_
            rintro ⟨y1, C5⟩ ⟨fC5, hy⟩
            dsimp only at fC5 hy ⊢
            have fC6 : FxC C C5 := FxC_tr fC4 fC5
            rcases hy with ⟨rfl, D', q1, q2, q3, q4⟩ | ⟨rfl, D', q1, q2, q3⟩ | ⟨rfl, D', τ', q1, q2, q3, q4, q5⟩
            · simp only [show ((1 : Int32) = 0) = False from by decide, ↓reduceIte]
              exact hv_some ⟨fC6, Or.inl ⟨rfl, D', run _ q1, FxD_tr fD q2, q3, q4⟩⟩
            · simp only [show ((-1 : Int32) = 0) = False from by decide, ↓reduceIte]
              exact hv_some ⟨fC6, Or.inr (Or.inl ⟨rfl, D', run _ q1, FxD_tr fD q2, q3.trans e82⟩)⟩
            · simp only [↓reduceIte]
              -- back: record j is taken out again
              obtain ⟨x1, x2, x3, x4, x5, x6, x7, x8⟩ := q1
              have d94 : D' 594 d = nI j := by rw [(q4 d (by omega)).1, e94, if_pos rfl]
              have d95 : D' 595 d = nI (j + 1) := by rw [(q4 d (by omega)).2, e95 d (Nat.le_refl _), if_pos rfl]
              have d76 : D' 537 76 = nI k := x1.1.2.2
              have hJ' : Jv k d pl τ' C5 (ao_u D' 597 j 0) := by
                refine ⟨JK_mv x1 FxC_rf (fun x i z1 z2 => u_ne (by omega)), h2, x3, x4, fun d' z1 p hp => by rw [u_ne (by omega)]; exact x5 d' (by omega) p hp, fun i hi => ?_, h7, fun d' z1 => ?_⟩
                · by_cases z : i = j
                  · subst z
                    rw [u_eq, if_neg (by rw [yes.1]; decide)]
                  · rw [u_ne (by omega), x6 i hi, bt_or pl (show i < 26 by omega) (show j < 26 by omega), decide_eq_false z, Bool.or_false]
                · obtain ⟨o, o1, o2, o3⟩ := x8 d' (by omega)
                  exact ⟨o, o1, o2, by rw [u_ne (by omega)]; exact o3⟩
              refine c_195 (show j < 14 by omega) ?_
              refine hv_mono (ihs (j + 1) (by omega) τ' C5 (ao_u D' 597 j 0) hJ') (fun y hy => JO_tr hy fC6 (FxD_tr (FxD_tr fD q2) (fun x i z1 z2 => u_ne (by omega))) (by rw [u_ne (by omega), q3, e82]) (fun d' z => ?_) (fun Q hQ => run Q (q5 Q ?_)))
              · rw [u_ne (by omega), u_ne (by omega), (q4 d' (by omega)).1, (q4 d' (by omega)).2, e94, e95 d' (by omega), if_neg (by omega), if_neg (by omega)]
                exact ⟨rfl, rfl⟩
              · exact d_bk hs hjk hdk hk14 d94 d95 d76 hQ
          · -- too many
            have hτ : τ = 20000 := by omega
            refine hv_bind (c_many hc hk14 hdk hτ e4) ?_
            rintro _ rfl
            simp only [show ((-1 : Int32) = 0) = False from by decide, ↓reduceIte]
            refine hv_some ⟨fC3, Or.inr (Or.inl ⟨rfl, D, ?_, FxD_rf, rfl⟩)⟩
            refine d_115m hs hjk hdk hk14 hτ a3 (hv_mono hmD ?_)
            rintro y (⟨q, -⟩ | ⟨-, q⟩)
            · exact q
            · exact absurd yes q
    rw [if_neg (by omega)]
    have a3 := h.1.1.2.2
    refine hv_mono (B k 0 (by omega) τ C D h) (fun y hy => JO_tr hy FxC_rf FxD_rf rfl (fun _ _ => ⟨rfl, rfl⟩) (fun Q hQ => ?_))
    exact d_ent (j := 0) hs hdk hk14 a3 h95 (Nat.zero_le _) hQ
end Ccf6
