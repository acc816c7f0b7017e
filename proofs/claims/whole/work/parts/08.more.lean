/-! ===== more rows: unsigned shifts, wide constants, copies ===== -/
section AoMo
variable {Γ : ao_C} {μ : ao_Mi} {R : Room} {Q : List Frame → Array Value → State → State → Prop} {mc ms pc : Nat} {lo : List (Option Value)} {st : List Value} {σ : ao_S} {M : ao_M} {ρ : ao_H}
theorem ao_iushr {x y : Int32} (hd : decode μ.2.1 pc = .ok (.iushr, 1)) (k : ao_W Γ μ R Q mc ms (pc + 1) lo (.int (x.toUInt32 >>> (y.toUInt32 &&& Int32.toUInt32 31)).toInt32 :: st) σ) : ao_W Γ μ R Q mc ms pc lo (.int y :: .int x :: st) σ :=
  ao_step (fun _ _ _ _ _ _ _ _ _ _ _ _ _ hX _ hl kk => lv_iushr hX.1 hX.2.1 hd rfl kk) k
theorem ao_ldc_w {index : Nat} {v : Int32} (hd : decode μ.2.1 pc = .ok (.ldc_w index, 3)) (hw : Cond.constant μ.1.cls index v ∈ ao_G) (k : ao_W Γ μ R Q mc ms (pc + 3) lo (.int v :: st) σ) : ao_W Γ μ R Q mc ms pc lo st σ :=
  ao_step (fun _ _ _ _ _ _ _ _ _ _ _ _ _ hX _ hl kk => lv_ldcw hX.1 hX.2.1 hX.2.2.2.2.2.2.1 (hX.2.2.2.2.2.2.2.1 _ hw) hd kk) k
/-- n places of j from dp on become those of i from sp on -/
def ao_cp (M : ao_M) (i j sp dp n : Nat) : ao_M := fun a k => if a = j ∧ dp ≤ k ∧ k < dp + n then M i (sp + (k - dp)) else M a k
theorem ao_cpW : Cond.native arraycopyName ∈ ao_G ∧ Cond.static arraycopyName ∈ ao_G ∧ Cond.initialized "java/lang/System" ∈ ao_G := ⟨ao_Gi 628 (by decide +kernel) rfl, ao_Gi 627 (by decide +kernel) rfl, ao_Gi 163 (by decide +kernel) rfl⟩
theorem ao_cpN : 8 + (nativeFrameWords "java/lang/System" "arraycopy" 5 + 11) ≤ 64 := by decide
theorem an_copy (i j : Nat) {index : Nat} {sp dp n : Int32} (hd : decode μ.2.1 pc = .ok (.invokestatic index, 3)) (hw : Cond.methodLink μ.1.cls index arraycopyName ∈ ao_G) (hi : ρ.2.1 i = 0) (hj : ρ.2.1 j = 0)
    (hc : ¬ sp < 0 ∧ ¬ dp < 0 ∧ ¬ n < 0 ∧ sp.toNatClampNeg + n.toNatClampNeg ≤ ρ.2.2.1 i ∧ dp.toNatClampNeg + n.toNatClampNeg ≤ ρ.2.2.1 j) (hrs : (st.map fun v => v.category).sum ≤ 8) (hRm : 1 ≤ R.frames ∧ 64 ≤ R.locals)
    (kk : ∀ N : ao_M, N = ao_cp M i j sp.toNatClampNeg dp.toNatClampNeg n.toNatClampNeg → ao_W Γ μ R Q mc ms (pc + 3) lo st (N, ρ)) : ao_W Γ μ R Q mc ms pc lo (.int n :: .int dp :: .ref (Γ.2.2.2 + j) :: .int sp :: .ref (Γ.2.2.2 + i) :: st) (M, ρ) := by
  have nn : ∀ z : Int32, ¬ z < 0 → z.toInt = (z.toNatClampNeg : Int) := by
    intro z hz
    have hz0 : (0 : Int) ≤ z.toInt := by
      have := Int32.not_lt.mp hz
      simpa using Int32.le_iff_toInt_le.mp this
    show z.toInt = ((z.toInt.toNat : Nat) : Int)
    omega
  obtain ⟨h1, h2, h3, h4, h5⟩ := hc
  intro p e s m args below meth c H locs cells slots ls hX hR hS hcl hsl hl
  have hX' := hX
  obtain ⟨hx, hb, hml, -, -, -, hown, hts, -, hK⟩ := hX
  intro T hT X
  have hc0 : H[Γ.2.2.2 + i]? = some (arrV (Γ.2.2.1 0) (ρ.2.2.1 i) (fun k => .int (M i k))) := (hR.2.1 i).1 0 (by omega) hi
  have hc1 : H[Γ.2.2.2 + j]? = some (arrV (Γ.2.2.1 0) (ρ.2.2.1 j) (fun k => .int (M j k))) := (hR.2.1 j).1 0 (by omega) hj
  obtain ⟨-, k0, hk0, cm0, hkk0⟩ := (ao_tyAt hK (k := 0) (by omega)).1 (ρ.2.2.1 i) (fun k => .int (M i k))
  obtain ⟨-, k1, hk1, cm1, hkk1⟩ := (ao_tyAt hK (k := 0) (by omega)).1 (ρ.2.2.1 j) (fun k => .int (M j k))
  have hprim : refKind (ao_et 0) = false := rfl
  obtain ⟨vm', X', step⟩ := X.arraycopy hx hown (hts _ hw) (hts _ ao_cpW.1) (hts _ ao_cpW.2.1) (hts _ ao_cpW.2.2) (src := Γ.2.2.2 + i) (dst := Γ.2.2.2 + j) (cs := arrV (Γ.2.2.1 0) (ρ.2.2.1 i) (fun k => .int (M i k))) (cd := arrV (Γ.2.2.1 0) (ρ.2.2.1 j) (fun k => .int (M j k))) (srcPos := sp) (destPos := dp) (n := n) (by rw [hT]; exact hc0) (by rw [hT]; exact hc1)
    (fun _ h => by cases h) (fun _ h => by cases h) (fun h => by cases h) (fun h => by cases h) hk0 hk1 hkk0 hkk1 (by simp [hprim]) h1 h2 h3
    (by rw [nn sp h1, nn n h3, arrV_size]; omega)
    (by rw [nn dp h2, nn n h3, arrV_size]; omega)
    (fun vm₁ _ k hk => by
      have e : (arrV (Γ.2.2.1 0) (ρ.2.2.1 i) (fun k => .int (M i k))).slots.getD (sp.toNatClampNeg + k) .null = .int (M i (sp.toNatClampNeg + k)) := by
        rw [Array.getD_eq_getD_getElem?, arrV_read _ _ (by omega)]
        rfl
      refine ⟨?_, ?_⟩
      · rw [e]
        rfl
      · rw [e]
        exact trivial)
    (g := F0 m pc ls (.int n :: .int dp :: .ref (Γ.2.2.2 + j) :: .int sp :: .ref (Γ.2.2.2 + i) :: st)) rfl (by rw [hml]; exact hl.1) (rest := st) rfl (by rw [hb]; exact hd) hRm.1 (by have := ao_cpN; show 2 * 0 + _ + _ ≤ _; omega)
  have e1 : copied (arrV (Γ.2.2.1 0) (ρ.2.2.1 i) (fun k => .int (M i k))) (arrV (Γ.2.2.1 0) (ρ.2.2.1 j) (fun k => .int (M j k))) sp dp n = arrV (Γ.2.2.1 0) (ρ.2.2.1 j) (fun k => .int (va_cpy (M i) (M j) sp.toNatClampNeg dp.toNatClampNeg n.toNatClampNeg k)) := va_copied (fun z => .int z) (Γ.2.2.1 0) (Γ.2.2.1 0) (M i) (M j) h4
  rw [e1] at X' step
  have hlj : Γ.2.2.2 + j < H.size := (Array.getElem?_eq_some_iff.mp hc1).1
  obtain ⟨N, hN⟩ : ∃ N : ao_M, N = ao_cp M i j sp.toNatClampNeg dp.toNatClampNeg n.toNatClampNeg := ⟨_, rfl⟩
  have hheap : ((T.setVm vm').setCell (Γ.2.2.2 + j) (arrV (Γ.2.2.1 0) (ρ.2.2.1 j) (fun k => .int (va_cpy (M i) (M j) sp.toNatClampNeg dp.toNatClampNeg n.toNatClampNeg k)))).heap = H.setIfInBounds (Γ.2.2.2 + j) (arrV (Γ.2.2.1 0) (ρ.2.2.1 j) (fun k => .int (va_cpy (M i) (M j) sp.toNatClampNeg dp.toNatClampNeg n.toNatClampNeg k))) := by rw [← hT]; rfl
  have oq : ∀ q : Nat, q ≠ Γ.2.2.2 + j → (H.setIfInBounds (Γ.2.2.2 + j) (arrV (Γ.2.2.1 0) (ρ.2.2.1 j) (fun k => .int (va_cpy (M i) (M j) sp.toNatClampNeg dp.toNatClampNeg n.toNatClampNeg k))))[q]? = H[q]? := fun q hq => by simp [Array.getElem?_setIfInBounds, Ne.symm hq]
  have hat : ao_at Γ (N, ρ) j (H.setIfInBounds (Γ.2.2.2 + j) (arrV (Γ.2.2.1 0) (ρ.2.2.1 j) (fun k => .int (va_cpy (M i) (M j) sp.toNatClampNeg dp.toNatClampNeg n.toNatClampNeg k)))) := by
    refine ⟨fun k hk7 hκ => ?_, fun ci' q' hq' hκ => absurd (hj.symm.trans hκ) (by omega)⟩
    have hk0 : k = 0 := hκ.symm.trans hj
    subst hk0
    rw [Array.getElem?_setIfInBounds, if_pos rfl, if_pos hlj]
    congr 2
    funext k
    show Value.int _ = Value.int _
    rw [hN]
    simp only [va_cpy, ao_cp, true_and]
  obtain ⟨t, a1, b1⟩ := kk N hN p e s m args below meth c _ _ cells slots ls hX' (ao_Rp_one (σ := (M, ρ)) (σ' := (N, ρ)) hR rfl (fun a ha => ⟨by rw [hN]; funext k; simp [ao_cp, ha], rfl⟩) (by simp) oq hat) ⟨by simp; exact hS.1, fun q g1 g2 => by
      rw [oq q (fun e => g2 (by rw [e]; exact Nat.le_add_right _ _))]
      exact hS.2.1 q g1 g2, fun q hq => by
      rcases List.mem_append.mp hq with h | h
      · exact hS.2.2 q h
      · obtain ⟨z, -, hz⟩ := List.mem_map.mp h
        rw [← hz]
        exact Nat.le_add_right _ _⟩ hcl hsl hl _ hheap X'
  exact ⟨t, step t a1, b1⟩
theorem ao_cpR {d mc ms : Nat} (h : 1 ≤ d) : 1 ≤ (ao_rm d mc ms).frames ∧ 64 ≤ (ao_rm d mc ms).locals := ⟨h, by show 64 ≤ 64 * d; omega⟩
end AoMo
