/-! ===== new int[n][k] ===== -/
def ao_zq (M : ao_M) (n c : Nat) : ao_M := fun a k => if n ≤ a ∧ a ≤ n + c then 0 else M a k
def ao_nq (ρ : ao_H) (n c l : Nat) : ao_H := (fun a k => if a = n then (if k < c then some (n + 1 + k) else none) else if n < a ∧ a ≤ n + c then none else ρ.1 a k, fun a => if a = n then 6 else if n < a ∧ a ≤ n + c then 0 else ρ.2.1 a, fun a => if a = n then c else if n < a ∧ a ≤ n + c then l else ρ.2.2.1 a, some (n + 1 + c), ρ.2.2.2.2.1 + (1 + c), ρ.2.2.2.2.2 + (c + c * l))
theorem ao_le_nq (ρ : ao_H) (n c l : Nat) : ao_le ρ (ao_nq ρ n c l) := ⟨Nat.le_add_right _ _, Nat.le_add_right _ _⟩
theorem ao_dc_nq {ρ z : ao_H} {n c l : Nat} (h : ao_le (ao_nq ρ n c l) z) : ao_dc (ao_nq ρ n c l) z + (1 + c) ≤ ao_dc ρ z ∧ ao_ds (ao_nq ρ n c l) z + (c + c * l) ≤ ao_ds ρ z := by
  obtain ⟨h1, h2⟩ := h
  have e1 : (ao_nq ρ n c l).2.2.2.2.1 = ρ.2.2.2.2.1 + (1 + c) := rfl
  have e2 : (ao_nq ρ n c l).2.2.2.2.2 = ρ.2.2.2.2.2 + (c + c * l) := rfl
  unfold ao_dc ao_ds
  rw [e1] at h1 ⊢
  rw [e2] at h2 ⊢
  generalize c * l = cl at *
  omega
theorem ao_mqW : Cond.arrayClass .int ∈ ao_G := ao_Gm (by decide +kernel) rfl
theorem ao_outer (c : ClassId) (N h0 : Nat) : ∀ i : Nat, Jvm.Free.Multi.outerC c N h0 i = arrV c N (fun j => va_rf (if j < i then some (h0 + 1 + j) else none))
  | 0 => by
    show ({ cls := c, slots := Array.replicate N .null, vm := .none } : Cell) = _
    rw [arrV_new]
    refine congrArg (arrV c N) (funext fun j => ?_)
    simp [va_rf]
  | i + 1 => by
    show (Jvm.Free.Multi.outerC c N h0 i).setSlot i (.ref (h0 + 1 + i)) = _
    rw [ao_outer c N h0 i, arrV_store]
    refine congrArg (arrV c N) (funext fun j => ?_)
    by_cases e : j = i
    · subst e
      simp [updV, va_rf]
    · by_cases h : j < i
      · simp [updV, e, h, Nat.lt_succ_of_lt h]
      · simp [updV, e, h, show ¬ j < i + 1 by omega]
theorem bi_multi {Γ : ao_C} {μ : ao_Mi} {R : Room} {Q : List Frame → Array Value → State → State → Prop} {mc ms mc2 ms2 pc : Nat} {lo : List (Option Value)} {st : List Value} {M : ao_M} {ρ : ao_H} (n : Nat) {index : Nat} {x y : Int32} (hd : decode μ.2.1 pc = .ok (.multianewarray index 2, 4)) (hz : ρ.2.2.2.1 = some n) (hw : Cond.classLink μ.1.cls index "[[I" ∈ ao_G)
    (hb0 : (¬ x < 0 ∧ ¬ y < 0) ∧ x.toNatClampNeg ≤ 10000 ∧ y.toNatClampNeg ≤ 10000) (hm : mc2 + (1 + x.toNatClampNeg) ≤ mc ∧ ms2 + (x.toNatClampNeg + x.toNatClampNeg * y.toNatClampNeg) ≤ ms)
    (kk : ao_W Γ μ R Q mc2 ms2 (pc + 4) lo (.ref (Γ.2.2.2 + n) :: st) (ao_zq M n x.toNatClampNeg, ao_nq ρ n x.toNatClampNeg y.toNatClampNeg)) : ao_W Γ μ R Q mc ms pc lo (.int y :: .int x :: st) (M, ρ) := by
  intro p e s m args below meth c H locs cells slots ls hX hR hS hc hs hl
  have hX' := hX
  obtain ⟨hx, hb, -, -, -, -, hown, hts, -, hK⟩ := hX
  have hs0 : H.size = Γ.2.2.2 + n := hR.2.2 n hz
  intro T hT Xs
  obtain ⟨vm₁, cA, comp, -, fA, fC, hO, -, X', step⟩ := Xs.multianewarray2F hx hown (ty := .int) (hts _ hw) (ao_AOA_use hK.2.2.2.2.2.2.2.2.2.2.1.2.2) (hts _ ao_mqW) (g := F0 m pc ls (.int y :: .int x :: st)) rfl (by rw [hb]; exact hd) rfl hb0.1.1 hb0.1.2 (by omega) (by simp only [componentBytes]; omega) (by omega) rfl rfl (by omega) (by omega)
  have hA6 : cA = Γ.2.2.1 6 := Option.some.inj (fA.symm.trans (ao_tyAt hK (k := 6) (by omega)).2)
  have hA0 : comp = Γ.2.2.1 0 := Option.some.inj (fC.symm.trans (ao_tyAt hK (k := 0) (by omega)).2)
  subst hA6
  subst hA0
  generalize hF : Jvm.Free.Multi.fill (T.setVm vm₁) (Γ.2.2.1 6) (Γ.2.2.1 0) x.toNatClampNeg y.toNatClampNeg (defaultValue .int) x.toNatClampNeg = F at X' step
  have hTh : (T.setVm vm₁).heap = H := hT
  obtain ⟨f1, f2, -, -⟩ := Jvm.Free.Multi.fill_facts (T.setVm vm₁) (Γ.2.2.1 6) (Γ.2.2.1 0) x.toNatClampNeg y.toNatClampNeg (defaultValue .int) x.toNatClampNeg
  rw [hF, hTh] at f1 f2
  have hold : ∀ z : Nat, z < H.size → F.heap[z]? = H[z]? := fun z hz' => by
    have := Jvm.Free.Multi.fill_old (T.setVm vm₁) (Γ.2.2.1 6) (Γ.2.2.1 0) x.toNatClampNeg y.toNatClampNeg (defaultValue .int) (a := z) (by rw [hTh]; exact hz') x.toNatClampNeg
    rw [hF, hTh] at this
    exact this
  have hrow : ∀ j : Nat, j < x.toNatClampNeg → F.heap[H.size + 1 + j]? = some (arrV (Γ.2.2.1 0) y.toNatClampNeg (fun _ => .int 0)) := fun j hj => by
    have := Jvm.Free.Multi.fill_inner (T.setVm vm₁) (Γ.2.2.1 6) (Γ.2.2.1 0) x.toNatClampNeg y.toNatClampNeg (defaultValue .int) x.toNatClampNeg j hj
    rw [hF, hTh] at this
    rw [this, ← arrV_new]
    rfl
  rw [ao_outer] at f2
  have hsz : F.heap.size = H.size + 1 + x.toNatClampNeg := f1
  have hRp : ao_Rp Γ (ao_zq M n x.toNatClampNeg, ao_nq ρ n x.toNatClampNeg y.toNatClampNeg) F.heap := by
    refine ⟨by rw [hsz]; have := hR.1; omega, fun a => ?_, fun k hk => ?_⟩
    · by_cases e1 : a = n
      · subst e1
        refine ⟨fun k hk hκ => ?_, fun ci q hq hκ => ?_⟩
        · have : k = 6 := by simpa [ao_nq] using hκ.symm
          subst this
          rw [← hs0, f2]
          simp only [ao_nq, if_true]
          congr 2
          funext j
          show va_rf _ = va_rf _
          by_cases h9 : j < x.toNatClampNeg
          · simp only [h9, if_true, Option.map_some]
            rw [hs0]
            congr 2
            omega
          · simp [h9]
        · have : (6 : Nat) = 10 + ci := by simpa [ao_nq] using hκ
          omega
      · by_cases e2 : n < a ∧ a ≤ n + x.toNatClampNeg
        · refine ⟨fun k hk hκ => ?_, fun ci q hq hκ => ?_⟩
          · have : k = 0 := by simpa [ao_nq, e1, e2] using hκ.symm
            subst this
            have h9 := hrow (a - n - 1) (by omega)
            rw [show Γ.2.2.2 + a = H.size + 1 + (a - n - 1) by omega, h9]
            simp only [ao_nq, if_neg e1, if_pos e2]
            congr 2
            funext j
            show Value.int 0 = Value.int _
            have : n ≤ a ∧ a ≤ n + x.toNatClampNeg := by omega
            simp [ao_zq, this]
          · have : (0 : Nat) = 10 + ci := by simpa [ao_nq, e1, e2] using hκ
            omega
        · have e3 : ¬ (n ≤ a ∧ a ≤ n + x.toNatClampNeg) := by omega
          obtain ⟨g1, g2⟩ := hR.2.1 a
          refine ⟨fun k hk hκ => ?_, fun ci q hq hκ => ?_⟩
          · have hκ' : ρ.2.1 a = k := by simpa [ao_nq, e1, e2] using hκ
            have h3 := g1 k hk hκ'
            have hlt : Γ.2.2.2 + a < H.size := (Array.getElem?_eq_some_iff.mp h3).1
            rw [hold _ hlt, h3]
            simp [ao_nq, ao_zq, e1, e2, e3]
          · have hκ' : ρ.2.1 a = 10 + ci := by simpa [ao_nq, e1, e2] using hκ
            have h3 := g2 ci q hq hκ'
            have hlt : Γ.2.2.2 + a < H.size := by
              obtain ⟨cell, q1, -⟩ := h3
              exact (Array.getElem?_eq_some_iff.mp q1).1
            exact (h3.kept (hold _ hlt)).to (fun k _ => by simp [ao_nq, ao_zq, e1, e2, e3])
    · have : some (n + 1 + x.toNatClampNeg) = some k := hk
      have := Option.some.inj this
      omega
  have hS' : va_S (ao_fr Γ) s.heap F.heap locs := ⟨by rw [hsz]; have := hS.1; omega, fun q g1 g2 => by rw [hold q (Nat.lt_of_lt_of_le g1 hS.1)]; exact hS.2.1 q g1 g2, hS.2.2⟩
  obtain ⟨t, a1, b1⟩ := kk p e s m args below meth c F.heap locs (cells + 1 + x.toNatClampNeg) (slots + x.toNatClampNeg + x.toNatClampNeg * y.toNatClampNeg) ls hX' hRp hS' (by omega) (by omega) hl F rfl X'
  refine ⟨t, step t ?_, b1⟩
  have : (.ref T.heap.size : Value) = .ref (Γ.2.2.2 + n) := by rw [hT, hs0]
  rw [this]
  exact a1
