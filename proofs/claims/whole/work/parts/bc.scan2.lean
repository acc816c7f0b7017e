set_option linter.unusedSimpArgs false
set_option linter.unusedVariables false
def sgk (x : Int32) : Nat := if x = 40 then 19 else if x = 41 then 20 else if x = 42 then 27 else if x = 43 then 25 else if x = 45 then 26 else if x = 59 then 21 else if x = 60 then 24 else if x = 123 then 17 else if x = 125 then 18 else 1
def sgi (x : Int32) : Int32 := if x = 40 then 19 else if x = 41 then 20 else if x = 42 then 27 else if x = 43 then 25 else if x = 45 then 26 else if x = 59 then 21 else if x = 60 then 24 else if x = 123 then 17 else if x = 125 then 18 else 1
theorem sg_n {C : ao_M} {ρ : ao_H} {x : Int32} {v : Int32} (a1 : ρ.2.1 3 = 19) (h2 : C 3 2 + 1 = v) (h : ¬ x = 61) : gX9_signKind 3 x C ρ = some (sgi x, ao_u C 3 2 v) := by
  unfold gX9_signKind sgi
  rw [if_pos a1, h2]
  unfold ao_let
  dsimp only
  by_cases g40 : x = 40
  · rw [if_pos g40, if_pos g40]
  rw [if_neg g40, if_neg g40]
  by_cases g41 : x = 41
  · rw [if_pos g41, if_pos g41]
  rw [if_neg g41, if_neg g41]
  by_cases g42 : x = 42
  · rw [if_pos g42, if_pos g42]
  rw [if_neg g42, if_neg g42]
  by_cases g43 : x = 43
  · rw [if_pos g43, if_pos g43]
  rw [if_neg g43, if_neg g43]
  by_cases g45 : x = 45
  · rw [if_pos g45, if_pos g45]
  rw [if_neg g45, if_neg g45]
  by_cases g59 : x = 59
  · rw [if_pos g59, if_pos g59]
  rw [if_neg g59, if_neg g59]
  by_cases g60 : x = 60
  · rw [if_pos g60, if_pos g60]
  rw [if_neg g60, if_neg g60]
  rw [if_neg h]
  by_cases g123 : x = 123
  · rw [if_pos g123, if_pos g123]
  rw [if_neg g123, if_neg g123]
  by_cases g125 : x = 125
  · rw [if_pos g125, if_pos g125]
  rw [if_neg g125, if_neg g125]
theorem sg_e {C : ao_M} {ρ : ao_H} {x : Int32} {v : Int32} (a1 : ρ.2.1 3 = 19) (h2 : C 3 2 + 1 = v) (h : x = 61) : gX9_signKind 3 x C ρ = (gX9_equalsKind 3 (ao_u C 3 2 v) ρ).bind fun p => some (p.1, p.2) := by
  unfold gX9_signKind
  rw [if_pos a1, h2, h]
  unfold ao_let
  dsimp only
  rw [if_neg (by decide), if_neg (by decide), if_neg (by decide), if_neg (by decide), if_neg (by decide), if_neg (by decide), if_neg (by decide), if_pos rfl]
/-- a token that begins at b: where it ends, its kind, its value -/
def tkE (s : Fn) (len b : Nat) : Nat := if len ≤ b then b else if ltrP (s b) then skp ltrP s (len - b) b else if dgtP (s b) then skp dgtP s (len - b) b else if s b = 61 ∧ b + 1 < len ∧ s (b + 1) = 61 then b + 2 else b + 1
noncomputable def tkK (s : Fn) (len b : Nat) : Nat := if len ≤ b then 0 else if ltrP (s b) then (if skp ltrP s (len - b) b - b = 1 then (if 97 ≤ s b ∧ s b ≤ 122 then 2 else 3) else kwd s b (skp ltrP s (len - b) b - b) 12 0) else if dgtP (s b) then (if nmv s (len - b) b 0 ≤ 1000000 then 4 else 1) else if s b = 61 then (if b + 1 < len ∧ s (b + 1) = 61 then 23 else 22) else sgk (s b)
def tkV (s : Fn) (len b : Nat) : Int32 := if len ≤ b then 0 else if ltrP (s b) then (if skp ltrP s (len - b) b - b = 1 then (if 97 ≤ s b ∧ s b ≤ 122 then s b - 97 else s b - 65) else 0) else if dgtP (s b) then nI (nmv s (len - b) b 0) else 0
/-- the class's token is this -/
def ScP (C : ao_M) (ρ : ao_H) (s : Fn) (len b : Nat) (y : ao_M) : Prop := CT y ρ s len ∧ (∀ x j, ¬ (x = 3 ∧ (j = 2 ∨ j = 8 ∨ j = 9 ∨ j = 10)) → y x j = C x j) ∧ y 3 2 = nI (tkE s len b) ∧ y 3 8 = nI (tkK s len b) ∧ y 3 9 = nI b ∧ y 3 10 = tkV s len b
theorem sg_ok {ρ : ao_H} {s : Fn} {len b : Nat} {C : ao_M} (hC : CT C ρ s len) (hb : b < len) (h2 : C 3 2 = nI b) (h9 : C 3 9 = nI b) (h10 : C 3 10 = 0) (hl : ¬ ltrP (s b)) (hd : ¬ dgtP (s b)) : ∃ M, gX9_signKind 3 (s b &&& 255) C ρ = some (nI (tkK s len b), M) ∧ ∀ k, (k = nI (tkK s len b)) → ScP C ρ s len b (ao_u M 3 8 k) := by
  have a1 := hC.1
  have a6 := hC.2.2.2.2.2.1
  have hby := (hC.2.2.2.2.2.2 b hb).2
  have eK : tkK s len b = if s b = 61 then (if b + 1 < len ∧ s (b + 1) = 61 then 23 else 22) else sgk (s b) := by
    unfold tkK; rw [if_neg (by omega), if_neg hl, if_neg hd]
  have eE : tkE s len b = if s b = 61 ∧ b + 1 < len ∧ s (b + 1) = 61 then b + 2 else b + 1 := by
    unfold tkE; rw [if_neg (by omega), if_neg hl, if_neg hd]
  have eV : tkV s len b = 0 := by
    unfold tkV; rw [if_neg (by omega), if_neg hl, if_neg hd]
  have fin : ∀ (M : ao_M) (q : Nat), (∀ x j, ¬ (x = 3 ∧ j = 2) → M x j = C x j) → M 3 2 = nI q → q = tkE s len b → ∀ k, (k = nI (tkK s len b)) → ScP C ρ s len b (ao_u M 3 8 k) := by
    intro M q f1 f2 f3 k hk
    refine ⟨CT_fr hC (by rw [u_n2 (by omega)]; exact f1 _ _ (by omega)) (fun i => by rw [u_n1 (by omega)]; exact f1 _ _ (by omega)), fun x j hx => ?_, ?_, ?_, ?_, ?_⟩
    · rw [u_ne (by omega)]; exact f1 _ _ (by omega)
    · rw [u_n2 (by omega), f2, f3]
    · rw [u_eq, hk]
    · rw [u_n2 (by omega), f1 _ _ (by omega), h9]
    · rw [u_n2 (by omega), f1 _ _ (by omega), h10, eV]
  have h0 := all_byte (P := fun x => ((x &&& 255) = 61 ↔ x = 61) ∧ (¬ x = 61 → sgi (x &&& 255) = nI (sgk x))) (by decide +kernel) _ hby.1 hby.2
  have hf : ∀ x j, ¬ (x = 3 ∧ j = 2) → (ao_u C 3 2 (nI (b + 1))) x j = C x j := fun x j h => u_ne (by omega)
  have hv1 : C 3 2 + 1 = nI (b + 1) := by rw [h2]; exact n_add
  by_cases h61 : s b = 61
  · have hC2 : CT (ao_u C 3 2 (nI (b + 1))) ρ s len := CT_fr hC (u_n2 (by omega)) (fun i => u_n1 (by omega))
    have c61 := h0.1.2 h61
    rw [sg_e a1 hv1 c61]
    unfold gX9_equalsKind
    rw [if_pos a1, u_eq]
    by_cases hn : b + 1 < len
    · have hby2 := (hC.2.2.2.2.2.2 (b + 1) hn).2
      have h00 := all_byte (P := fun x => ((x &&& 255) = 61 ↔ x = 61)) (by decide +kernel) _ hby2.1 hby2.2
      rw [c_byte hC2 hn]
      by_cases hq : s (b + 1) = 61
      · have c62 := h00.2 hq
        have eK' : tkK s len b = 23 := by rw [eK, if_pos h61, if_pos ⟨hn, hq⟩]
        refine ⟨ao_u (ao_u C 3 2 (nI (b + 1))) 3 2 (nI (b + 1 + 1)), ?_, fin _ (b + 2) (fun x j h => by rw [u_ne (by omega), u_ne (by omega)]) u_eq ?_⟩
        · rw [eK']
          simp only [Option.bind_some, if_pos c62, ao_let, u_eq]
          rw [show nI (b + 1) + (1 : Int32) = nI (b + 1 + 1) from n_add]
          rfl
        · rw [eE, if_pos ⟨h61, hn, hq⟩]
      · have c62 : ¬ (s (b + 1) &&& 255) = 61 := fun e => hq (h00.1 e)
        have eK' : tkK s len b = 22 := by rw [eK, if_pos h61, if_neg (fun h => hq h.2)]
        refine ⟨ao_u C 3 2 (nI (b + 1)), ?_, fin _ (b + 1) hf u_eq ?_⟩
        · rw [eK']
          simp only [Option.bind_some, if_neg c62]
          rfl
        · rw [eE, if_neg (fun h => hq h.2.2)]
    · rw [c_byteN hC2 (show len ≤ b + 1 by omega) (by omega)]
      have eK' : tkK s len b = 22 := by rw [eK, if_pos h61, if_neg (fun h => hn h.1)]
      refine ⟨ao_u C 3 2 (nI (b + 1)), ?_, fin _ (b + 1) hf u_eq ?_⟩
      · rw [eK']
        simp only [Option.bind_some, if_neg (show ¬ (-1 : Int32) = 61 by decide)]
        rfl
      · rw [eE, if_neg (fun h => hn h.2.1)]
  · have c61 : ¬ (s b &&& 255) = 61 := fun e => h61 (h0.1.1 e)
    refine ⟨ao_u C 3 2 (nI (b + 1)), ?_, fin _ (b + 1) hf u_eq ?_⟩
    · rw [sg_n a1 hv1 c61, eK, if_neg h61, h0.2 h61]
    · rw [eE, if_neg (fun h => h61 h.1)]
theorem wd_ok {ρ : ao_H} {s : Fn} {len b : Nat} {C : ao_M} (hC : CT C ρ s len) (hb : b < len) (h2 : C 3 2 = nI b) (h9 : C 3 9 = nI b) (h10 : C 3 10 = 0) (hl : ltrP (s b)) : hv (fun n => gX9_wordKind n 3 C ρ) (fun y => y.1 = nI (tkK s len b) ∧ ScP C ρ s len b (ao_u y.2 3 8 y.1)) := by
  have a1 := hC.1
  have a6 := hC.2.2.2.2.2.1
  have hby := (hC.2.2.2.2.2.2 b hb).2
  have eE : tkE s len b = skp ltrP s (len - b) b := by unfold tkE; rw [if_neg (by omega), if_pos hl]
  have eK : tkK s len b = (if skp ltrP s (len - b) b - b = 1 then (if 97 ≤ s b ∧ s b ≤ 122 then 2 else 3) else kwd s b (skp ltrP s (len - b) b - b) 12 0) := by unfold tkK; rw [if_neg (by omega), if_pos hl]
  have eV : tkV s len b = (if skp ltrP s (len - b) b - b = 1 then (if 97 ≤ s b ∧ s b ≤ 122 then s b - 97 else s b - 65) else 0) := by unfold tkV; rw [if_neg (by omega), if_pos hl]
  obtain ⟨k1, k2, k3, k4⟩ := @skp_ge ltrP _ s (len - b) b
  unfold gX9_wordKind
  refine word_loop (len - b) b C (by omega) hC h2 (fun C' hC' f1 f2 => ?_)
  have f9 : C' 3 9 = nI b := by rw [f1 _ _ (by omega), h9]
  have f10 : C' 3 10 = 0 := by rw [f1 _ _ (by omega), h10]
  generalize skp ltrP s (len - b) b = e at *
  refine hv_up (fun _ => fX9_wordKind.eq_2 ..) ?_
  simp only [Nat.reduceEqDiff, ↓reduceIte, if_pos a1, f2, f9, n_sub k1]
  by_cases h1 : e - b = 1
  · refine hv_ifT (by rw [h1]; rfl) ?_
    simp only [c_byte hC' hb, Option.bind_some, ao_let, c_small hby]
    by_cases hs : 97 ≤ s b ∧ s b ≤ 122
    · have hv : (s b &&& 255) = s b := all_byte (P := fun x => 97 ≤ x ∧ x ≤ 122 → (x &&& 255) = x) (by decide +kernel) _ hby.1 hby.2 hs
      simp only [if_pos hs, if_neg (show ¬ (1 : Int32) = 0 by decide)]
      refine hv_up (fun _ => fX9_wordKind.eq_2 ..) ?_
      simp only [Nat.reduceEqDiff, ↓reduceIte, if_pos a1, ao_let, c_small hby, if_pos hs, Option.bind_some, if_neg (show ¬ (1 : Int32) = 0 by decide)]
      refine hv_some ⟨?_, CT_fr hC' ?_ (fun i => ?_), fun x j hx => ?_, ?_, ?_, ?_, ?_⟩
      · rw [eK, if_pos h1, if_pos hs]; rfl
      · dsimp only
        rw [u_n2 (by omega), u_n2 (by omega)]
      · dsimp only
        rw [u_n1 (by omega), u_n1 (by omega)]
      · dsimp only
        rw [u_ne (by omega), u_ne (by omega), f1 _ _ (by omega)]
      · dsimp only
        rw [u_n2 (by omega), u_n2 (by omega), f2, eE]
      · rw [u_eq, eK, if_pos h1, if_pos hs]; rfl
      · dsimp only
        rw [u_n2 (by omega), u_n2 (by omega), f9]
      · dsimp only
        rw [u_n2 (by omega), u_eq, eV, if_pos h1, if_pos hs, hv]
    · have hv : (s b &&& 255) = s b := all_byte (P := fun x => ltrP x → (x &&& 255) = x) (by decide +kernel) _ hby.1 hby.2 hl
      simp only [if_neg hs, ↓reduceIte]
      refine hv_up (fun _ => fX9_wordKind.eq_2 ..) ?_
      simp only [Nat.reduceEqDiff, ↓reduceIte, if_pos a1, ao_let, c_small hby, if_neg hs, Option.bind_some]
      refine hv_some ⟨?_, CT_fr hC' ?_ (fun i => ?_), fun x j hx => ?_, ?_, ?_, ?_, ?_⟩
      · rw [eK, if_pos h1, if_neg hs]; rfl
      · dsimp only
        rw [u_n2 (by omega), u_n2 (by omega)]
      · dsimp only
        rw [u_n1 (by omega), u_n1 (by omega)]
      · dsimp only
        rw [u_ne (by omega), u_ne (by omega), f1 _ _ (by omega)]
      · dsimp only
        rw [u_n2 (by omega), u_n2 (by omega), f2, eE]
      · rw [u_eq, eK, if_pos h1, if_neg hs]; rfl
      · dsimp only
        rw [u_n2 (by omega), u_n2 (by omega), f9]
      · dsimp only
        rw [u_n2 (by omega), u_eq, eV, if_pos h1, if_neg hs, hv]
  · refine hv_ifF (by rw [show (1 : Int32) = nI 1 from rfl, n_eq (by omega) (by omega)]; exact h1) ?_
    refine hv_bind (kw_ok hC' f9 f2 k1 (by omega)) ?_
    rintro _ rfl
    dsimp only
    refine hv_some ⟨?_, CT_fr hC' ?_ (fun i => ?_), fun x j hx => ?_, ?_, ?_, ?_, ?_⟩
    · rw [eK, if_neg h1]
    · dsimp only
      rw [u_n2 (by omega)]
    · dsimp only
      rw [u_n1 (by omega)]
    · dsimp only
      rw [u_ne (by omega), f1 _ _ (by omega)]
    · dsimp only
      rw [u_n2 (by omega), f2, eE]
    · rw [u_eq, eK, if_neg h1]
    · dsimp only
      rw [u_n2 (by omega), f9]
    · dsimp only
      rw [u_n2 (by omega), f10, eV, if_neg h1]
theorem nm_ok {ρ : ao_H} {s : Fn} {len b : Nat} {C : ao_M} (hC : CT C ρ s len) (hb : b < len) (h2 : C 3 2 = nI b) (h9 : C 3 9 = nI b) (h10 : C 3 10 = 0) (hl : ¬ ltrP (s b)) (hd : dgtP (s b)) : hv (fun n => gX9_numberKind n 3 C ρ) (fun y => y.1 = nI (tkK s len b) ∧ ScP C ρ s len b (ao_u y.2 3 8 y.1)) := by
  have a1 := hC.1
  have a6 := hC.2.2.2.2.2.1
  have eE : tkE s len b = skp dgtP s (len - b) b := by unfold tkE; rw [if_neg (by omega), if_neg hl, if_pos hd]
  have eK : tkK s len b = (if nmv s (len - b) b 0 ≤ 1000000 then 4 else 1) := by unfold tkK; rw [if_neg (by omega), if_neg hl, if_pos hd]
  have eV : tkV s len b = nI (nmv s (len - b) b 0) := by unfold tkV; rw [if_neg (by omega), if_neg hl, if_pos hd]
  unfold gX9_numberKind
  refine num_loop (len - b) b C 0 (by omega) (by omega) hC h2 h10 (fun C' hC' f1 f2 f3 f4 => ?_)
  have f9 : C' 3 9 = nI b := by rw [f1 _ _ (by omega), h9]
  refine hv_up (fun _ => fX9_numberKind.eq_2 ..) ?_
  simp only [Nat.reduceEqDiff, ↓reduceIte, if_pos a1, f3]
  have hi : ((1000000 : Int32) < nI (nmv s (len - b) b 0)) = (1000000 < nmv s (len - b) b 0) := n_lt (a := 1000000) (by decide) (by omega)
  have fin : ∀ k : Int32, k = nI (tkK s len b) → ScP C ρ s len b (ao_u C' 3 8 k) := by
    intro k hk
    refine ⟨CT_fr hC' ?_ (fun i => ?_), fun x j hx => ?_, ?_, ?_, ?_, ?_⟩
    · rw [u_n2 (by omega)]
    · rw [u_n1 (by omega)]
    · rw [u_ne (by omega), f1 _ _ (by omega)]
    · rw [u_n2 (by omega), f2, eE]
    · rw [u_eq, hk]
    · rw [u_n2 (by omega), f9]
    · rw [u_n2 (by omega), f3, eV]
  by_cases hv : nmv s (len - b) b 0 ≤ 1000000
  · refine hv_ifF (by rw [hi]; omega) ?_
    have e : (4 : Int32) = nI (tkK s len b) := by rw [eK, if_pos hv]; rfl
    exact hv_some ⟨e, fin _ e⟩
  · refine hv_ifT (by rw [hi]; omega) ?_
    have e : (1 : Int32) = nI (tkK s len b) := by rw [eK, if_neg hv]; rfl
    exact hv_some ⟨e, fin _ e⟩
theorem ScP_tr {C C1 : ao_M} {ρ : ao_H} {s : Fn} {len b : Nat} {y : ao_M} (h : ScP C1 ρ s len b y) (hf : ∀ x j, ¬ (x = 3 ∧ (j = 2 ∨ j = 8 ∨ j = 9 ∨ j = 10)) → C1 x j = C x j) : ScP C ρ s len b y := ⟨h.1, fun x j hx => (h.2.1 x j hx).trans (hf x j hx), h.2.2⟩
/-- a token of the class -/
theorem scan_ok {ρ : ao_H} {s : Fn} {len p : Nat} {C : ao_M} (hC : CT C ρ s len) (hp : p ≤ len) (h2 : C 3 2 = nI p) : hv (fun n => gX9_scan n 3 C ρ) (fun y => ScP C ρ s len (skp blkP s (len - p) p) y) := by
  have a1 := hC.1
  have a6 := hC.2.2.2.2.2.1
  have a5 := hC.2.2.2.2.1
  unfold gX9_scan
  obtain ⟨k1, k2, k3, k4⟩ := @skp_ge blkP _ s (len - p) p
  refine scan_blk (len - p) p C (by omega) hC h2 (fun C' hC' f1 f2 => ?_)
  generalize skp blkP s (len - p) p = b at *
  refine hv_up (fun _ => fX9_scan.eq_2 ..) ?_
  have hC2 : CT (ao_u (ao_u C' 3 9 (nI b)) 3 10 0) ρ s len := CT_fr hC' (by rw [u_n2 (by omega), u_n2 (by omega)]) (fun i => by rw [u_n1 (by omega), u_n1 (by omega)])
  have e2 : (ao_u (ao_u C' 3 9 (nI b)) 3 10 0) 3 2 = nI b := by rw [u_n2 (by omega), u_n2 (by omega), f2]
  have e9 : (ao_u (ao_u C' 3 9 (nI b)) 3 10 0) 3 9 = nI b := by rw [u_n2 (by omega), u_eq]
  have e10 : (ao_u (ao_u C' 3 9 (nI b)) 3 10 0) 3 10 = 0 := u_eq
  have e1 : (ao_u (ao_u C' 3 9 (nI b)) 3 10 0) 3 1 = nI len := hC2.2.2.2.2.1
  have hf : ∀ x j, ¬ (x = 3 ∧ (j = 2 ∨ j = 8 ∨ j = 9 ∨ j = 10)) → (ao_u (ao_u C' 3 9 (nI b)) 3 10 0) x j = C x j := fun x j hx => by rw [u_ne (by omega), u_ne (by omega), f1 _ _ (by omega)]
  simp only [Nat.reduceEqDiff, ↓reduceIte, if_pos a1, f2, ao_let]
  generalize ao_u (ao_u C' 3 9 (nI b)) 3 10 0 = C2 at *
  rw [e2]
  by_cases hb : b < len
  · have hby := (hC.2.2.2.2.2.2 b hb).2
    simp only [c_byte hC2 hb, Option.bind_some, e2, e1]
    refine hv_ifT (by rw [n_lt (by omega) (by omega)]; exact hb) ?_
    refine hv_bind (c_ltr hby) ?_
    rintro _ rfl
    dsimp only
    by_cases hl : ltrP (s b)
    · simp only [if_pos hl, if_neg (show ¬ (1 : Int32) = 0 by decide)]
      refine hv_bind (wd_ok hC2 hb e2 e9 e10 hl) ?_
      rintro y ⟨-, hy⟩
      exact hv_some (ScP_tr hy hf)
    · simp only [if_neg hl, ↓reduceIte, c_dgt hby, Option.bind_some]
      by_cases hd : dgtP (s b)
      · simp only [if_pos hd, if_neg (show ¬ (1 : Int32) = 0 by decide)]
        refine hv_bind (nm_ok hC2 hb e2 e9 e10 hl hd) ?_
        rintro y ⟨-, hy⟩
        exact hv_some (ScP_tr hy hf)
      · simp only [if_neg hd, ↓reduceIte]
        obtain ⟨M, g1, g2⟩ := sg_ok hC2 hb e2 e9 e10 hl hd
        simp only [g1, Option.bind_some]
        exact hv_some (ScP_tr (g2 _ rfl) hf)
  · simp only [c_byteN hC2 (show len ≤ b by omega) (by omega), Option.bind_some, e2, e1]
    refine hv_ifF (by rw [n_lt (by omega) (by omega)]; exact hb) ?_
    have q : len ≤ b := by omega
    refine hv_some (ScP_tr ⟨CT_fr hC2 (u_n2 (by omega)) (fun i => u_n1 (by omega)), fun x j hx => u_ne (by omega), ?_, ?_, ?_, ?_⟩ hf)
    · rw [u_n2 (by omega), e2, tkE, if_pos q]
    · rw [u_eq, tkK, if_pos q]; rfl
    · rw [u_n2 (by omega), e9]
    · rw [u_n2 (by omega), e10, tkV, if_pos q]
