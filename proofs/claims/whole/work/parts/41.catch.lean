/-! ===== catching: cx_catch0 is the kit's own law (vx_catch) ===== -/
theorem cx_catch0 {p : Program} {l : Launch} {e : Env} {R : Room} {s : State} {m : MethodId} {args : Array Value} {below : List Frame} {meth : Method} {c : Code} {H : Heap} {locs : List Loc} {cells slots : Nat} {Q : State → Prop} {pc : Nat} {ls : Array Slot} {rest : List Value} {own name : String} {E : String} {ce : Cell} {q : Addr} (hown : s.vm.findClass own = some m.cls) (pre : List ExceptionTableEntry) (x : ExceptionTableEntry) (suf : List ExceptionTableEntry) (hsplit : c.exceptionTable.toList = pre ++ x :: suf)
    (hpass : ∀ z ∈ pre, covers z pc = false ∨ (z.catchType ≠ 0 ∧ ∃ nm : String, (Cond.classLink own z.catchType nm).before args s = true ∧ va_Nc E nm s)) (hx : covers x pc = true) (h0 : x.catchType ≠ 0)
    (hlink : (Cond.classLink own x.catchType name).before args s = true) (hcast : (Cond.castable E name).before args s = true) (hcell : H[q]? = some ce) (hv : ce.vm = .none) (hcl : s.vm.findClass E = some ce.cls)
    (kk : W p l e R s m args below meth c H locs cells slots Q (F0 m x.handlerPc ls [.ref q])) : vx_W p l e R s m args below meth c H locs cells slots Q (F0 m pc ls rest) q := by
  intro T hT X
  have hpl : e.platform.magicAccessors = ({} : Platform).magicAccessors := by rw [X.admits.platform]
  obtain ⟨c3, c4, hc3, hc4, hasg⟩ := Cond.castable_spec hcast
  cases Option.some.inj (hc3.symm.trans hcl)
  obtain ⟨c5, hc5, hcl5⟩ := Cond.classLink_spec hown hlink e.platform hpl
  cases Option.some.inj (hc4.symm.trans hc5)
  obtain ⟨vm', X', st⟩ := X.thenCaughtThrough q (g := F0 m pc ls rest) rfl (Steps.refl _) (by rw [hT]; exact hcell) (by rw [hv]; rfl) (by obtain ⟨k9, h9, -⟩ := Vm.findClass_spec hcl; exact ⟨k9, h9⟩) pre x suf hsplit
    (fun z hz => by
      rcases hpass z hz with h | ⟨hz0, nm, hl1, hn1⟩
      · exact Or.inl h
      · obtain ⟨c6, hc6, hcl6⟩ := Cond.classLink_spec hown hl1 e.platform hpl
        obtain ⟨a8, b8, h1, h2, h3⟩ := hn1
        cases Option.some.inj (h1.symm.trans hcl)
        cases Option.some.inj (h2.symm.trans hc6)
        exact Or.inr ⟨hz0, _, hcl6, h3⟩) hx (Or.inr ⟨h0, c4, hcl5, hasg⟩)
  obtain ⟨t, a1, b1⟩ := kk (T.setVm vm') hT X'
  exact ⟨t, st.trans a1, b1⟩
theorem cx_catch {Γ : ao_C} {μ : ao_Mi} {R : Room} {Q : List Frame → Array Value → State → State → Prop} {mc ms pc : Nat} {lo : List (Option Value)} {σ : ao_S} {E : String} (name : String) (pre : List ExceptionTableEntry) (x : ExceptionTableEntry) (suf : List ExceptionTableEntry) (hsplit : tableOf μ.2.2.2.2 = pre ++ x :: suf)
    (hpass : ∀ z ∈ pre, covers z pc = false ∨ (z.catchType ≠ 0 ∧ ∃ nm : String, Cond.classLink μ.1.cls z.catchType nm ∈ ao_G ∧ (E, nm) ∈ ao_nc)) (hx : covers x pc = true) (h0 : x.catchType ≠ 0) (hlink : Cond.classLink μ.1.cls x.catchType name ∈ ao_G) (hcast : Cond.castable E name ∈ lw_tbl)
    (k : ∀ a : Nat, ao_W Γ μ R Q mc ms x.handlerPc lo [.ref a] σ) : ao_T Γ μ R Q mc ms pc lo E σ := by
  intro p e s m args below meth c H locs cells slots ls rest q ce hX hR hS hc hs hl hce hcv hcl
  have hX' := hX
  obtain ⟨hx', hb, hml, -, hlocks, -, hown, hts, htab, hK⟩ := hX
  refine cx_catch0 (own := μ.1.cls) (name := name) (E := E) (ce := ce) hown pre x suf (htab.trans hsplit) (fun z hz => ?_) hx h0 (hts _ hlink) (va_Nw.use rfl (hK.2.2.2.2.2.2.2.1 _ _ hcast)) hce hcv hcl (k q p e s m args below meth c H locs cells slots ls hX' hR hS hc hs hl)
  rcases hpass z hz with h | ⟨h1, nm, h2, h3⟩
  · exact Or.inl h
  · exact Or.inr ⟨h1, nm, hts _ h2, hK.2.2.2.2.2.2.2.2.2.1 _ h3⟩
/-- a body with a table gives the contract -/
theorem ao_ofH {Γ : ao_C} {y : MethodName} {cc : ByteArray} {nL : Nat} {ret : Option FieldType} {hh : List (Nat × Nat × Nat × Nat)} {d mc ms : Nat} {as : List Value} {σ : ao_S} {Φ : ao_Po} (hy : plainName y.cls = true) (hh0 : ao_ws (y, cc, nL, ret, hh) = Cond.codeWith y cc nL ret hh :: ao_G) (hc : ∀ v ∈ as, v.category = 1) (hn : as.length ≤ nL)
    (k : ao_W Γ (y, cc, nL, ret, hh) (ao_rm d mc ms) (ao_Q Γ Φ mc ms) mc ms 0 (as.map some ++ List.replicate (nL - as.length) none) [] σ) : ao_A Γ (y, cc, nL, ret, hh) d mc ms as σ Φ := by
  have hsl : lg_sl as = as.map Slot.val := by
    clear k hn
    induction as with
    | nil => rfl
    | cons v r ih =>
      have h1 : v.category = 1 := hc v List.mem_cons_self
      have h2 := ih (fun w hw => hc w (List.mem_cons_of_mem _ hw))
      unfold lg_sl at h2 ⊢
      rw [List.flatMap_cons, h2, if_neg (by omega)]
      rfl
  have hlen : (lg_sl as).length = as.length := by rw [hsl, List.length_map]
  refine vx_ofWH (ws := ao_ws (y, cc, nL, ret, hh)) (ws' := ao_G) (cc := cc) (maxL := nL) (ret := ret) (hh := hh) hy hh0 ?_
  intro p e s m args below meth c s₁ B hml hP
  obtain ⟨rfl, hRp, hK⟩ := hP
  have hts : ∀ w ∈ ao_ws (y, cc, nL, ret, hh), w.before as.toArray s = true := atoms_spec (ws := ao_ws (y, cc, nL, ret, hh)) B.pre
  rw [hh0] at hts
  have hl := lv_entry as (n := nL) (by rw [hlen]; exact hn)
  rw [lg_entry_eq]
  generalize hls : (lg_sl as ++ List.replicate (nL - (lg_sl as).length) Slot.unset).toArray = ls at hl ⊢
  refine k p e s m as.toArray below meth c s.heap [] 0 0 ls ⟨B.exec, B.bytes, hml, B.returns, B.notSynchronized, (name_of_methodNamed B.named B.method).1, findClass_of_methodNamed B.named, fun w hw => hts w (List.mem_cons_of_mem _ hw), ?_, hK⟩ hRp va_S.rf (by simp [ao_rm, headSpec]) (by simp [ao_rm, headSpec]) ⟨hl.1, hl.2.1, fun i v hi => ?_⟩
  · exact vx_table (x := y) B (hts _ List.mem_cons_self)
  · have hi' : i < as.length := by
      rcases Nat.lt_or_ge i as.length with h | h
      · exact h
      · rw [List.getElem?_append_right (by simpa using h)] at hi
        have := List.mem_of_getElem? hi
        simp at this
    rw [List.getElem?_append_left (by simpa using hi')] at hi
    simp only [List.getElem?_map, Option.map_eq_some_iff] at hi
    obtain ⟨w, hw, hwv⟩ := hi
    cases hwv
    refine ⟨?_, hc v (List.mem_of_getElem? hw)⟩
    rw [← hls, hsl]
    show (List.map Slot.val as ++ List.replicate (nL - (List.map Slot.val as).length) Slot.unset).toArray[i]? = some (Slot.val v)
    rw [List.getElem?_toArray, List.getElem?_append_left (by simpa using hi'), List.getElem?_map, hw]
    rfl
section AoZ
variable {Γ : ao_C} {μ : ao_Mi} {R : Room} {Q : List Frame → Array Value → State → State → Prop} {mc ms mc2 ms2 pc : Nat} {lo : List (Option Value)} {st : List Value} {M : ao_M} {ρ : ao_H}
theorem bi_aast2 (a j t ce : Nat) {q : vw_C} {x : Int32} (hd : decode μ.2.1 pc = .ok (.aastore, 1)) (hk : ρ.2.1 a = t) (hq : vwCl[ce]? = some q) (ht : ao_et t = .object q.1) (hv : ρ.2.1 j = 10 + ce) (hin : ¬ (x < 0 ∨ ρ.2.2.1 a ≤ x.toNatClampNeg)) (ht7 : t < 7)
    (kk : ao_W Γ μ R Q mc ms (pc + 1) lo st (M, ao_r ρ a x.toNatClampNeg (some j))) : ao_W Γ μ R Q mc ms pc lo (.ref (Γ.2.2.2 + j) :: .int x :: .ref (Γ.2.2.2 + a) :: st) (M, ρ) := bi_aast a j t ce hd hk hq ht hv hin ht7 kk
theorem cx_callVi (i ci : Nat) {q : vw_C} {index n d mc' ms' nL : Nat} {y : MethodName} {cc : ByteArray} {ty : FieldType} (As : List Value) {rest : List Value} {v : (Int32 ⊕ String) × ao_S}
    (hA : ao_A Γ (y, cc, nL, some ty, []) d mc' ms' (.ref (Γ.2.2.2 + i) :: As) (M, ρ) (ao_ZI v)) (hd : decode μ.2.1 pc = .ok (.invokevirtual index, 3)) (hw : ao_cB μ.1.cls index y cc nL (some ty) n) (hi : Cond.instanceMethod y ∈ ao_G) (hse : Cond.selects q.1 y y ∈ ao_G)
    (hq : vwCl[ci]? = some q) (hk : ρ.2.1 i = 10 + ci) (hn : As.length = n) (hst : st = As.reverse ++ .ref (Γ.2.2.2 + i) :: rest) (hrs : (rest.map fun v => v.category).sum ≤ 8) (hRm : d + 1 ≤ R.frames ∧ 8 + (nL + 11) + 64 * d ≤ R.locals) (hmc : mc' + mc2 ≤ mc) (hms : ms' + ms2 ≤ ms)
    (k : ∀ x, v.1 = .inl x → ao_W Γ μ R Q mc2 ms2 (pc + 3) lo (.int x :: rest) (v.2.1, v.2.2)) (kx : ∀ E, v.1 = .inr E → ao_T Γ μ R Q mc2 ms2 pc lo E (v.2.1, v.2.2)) : ao_W Γ μ R Q mc ms pc lo st (M, ρ) := by
  obtain ⟨w, σ2⟩ := v
  refine ao_callVX (σ := (M, ρ)) i ci As hA hd hw hi hse hq hk hn hst hrs hRm (by omega) (by omega) (fun r σ' h => ?_) (fun E σ' h => ?_)
  · cases w with
    | inl x =>
      obtain ⟨h1, rfl⟩ := h
      cases h1
      exact ao_less (by omega) (by omega) (k x rfl)
    | inr E => exact nomatch h.1
  · cases w with
    | inl x => exact nomatch h.1
    | inr E' =>
      obtain ⟨h1, rfl⟩ := h
      cases h1
      exact fun p e s m args below meth c H locs cells slots ls rest q ce hX hR hS hc hs hl => kx E rfl p e s m args below meth c H locs cells slots ls rest q ce hX hR hS (by omega) (by omega) hl
theorem cx_callVw (i ci : Nat) {q : vw_C} {index n d mc' ms' nL : Nat} {y : MethodName} {cc : ByteArray} (As : List Value) {rest : List Value} {v : (Int32 ⊕ String) × ao_S}
    (hA : ao_A Γ (y, cc, nL, none, []) d mc' ms' (.ref (Γ.2.2.2 + i) :: As) (M, ρ) (ao_ZV v)) (hd : decode μ.2.1 pc = .ok (.invokevirtual index, 3)) (hw : ao_cB μ.1.cls index y cc nL none n) (hi : Cond.instanceMethod y ∈ ao_G) (hse : Cond.selects q.1 y y ∈ ao_G)
    (hq : vwCl[ci]? = some q) (hk : ρ.2.1 i = 10 + ci) (hn : As.length = n) (hst : st = As.reverse ++ .ref (Γ.2.2.2 + i) :: rest) (hrs : (rest.map fun v => v.category).sum ≤ 8) (hRm : d + 1 ≤ R.frames ∧ 8 + (nL + 11) + 64 * d ≤ R.locals) (hmc : mc' + mc2 ≤ mc) (hms : ms' + ms2 ≤ ms)
    (k : ∀ x, v.1 = .inl x → ao_W Γ μ R Q mc2 ms2 (pc + 3) lo rest (v.2.1, v.2.2)) (kx : ∀ E, v.1 = .inr E → ao_T Γ μ R Q mc2 ms2 pc lo E (v.2.1, v.2.2)) : ao_W Γ μ R Q mc ms pc lo st (M, ρ) :=
  cx_callVv i ci As hA hd hw hi hse hq hk hn hst hrs hRm hmc hms k (fun E h p e s m args below meth c H locs cells slots ls rest q ce hX hR hS hc hs hl => kx E h p e s m args below meth c H locs cells slots ls rest q ce hX hR hS (by omega) (by omega) hl)
theorem an_lastore (i : Nat) {x y : Int32} (hd : decode μ.2.1 pc = .ok (.lastore, 1)) (hk : ρ.2.1 i = 3) (hin : ¬ (x < 0 ∨ ρ.2.2.1 i ≤ x.toNatClampNeg))
    (kk : ∀ N : ao_M, N = ao_u M i x.toNatClampNeg y → ao_W Γ μ R Q mc ms (pc + 1) lo st (N, ρ)) : ao_W Γ μ R Q mc ms pc lo (.long y.toInt64 :: .int x :: .ref (Γ.2.2.2 + i) :: st) (M, ρ) := by
  intro p e s m args below meth c H locs cells slots ls hX hR hS hc hs hl
  refine W.last hX.1 hX.2.1 ((hR.2.1 i).1 3 (by omega) hk) ((ao_tyAt hX.2.2.2.2.2.2.2.2.2 (k := 3) (by omega)).1 _ _) (fun q => by cases q) (by rw [arrV_size]; exact hin) rfl rfl hd fun H1 e1 z oq => ?_
  refine kk _ rfl p e s m args below meth c H1 _ cells slots ls hX (ao_Rp_one (σ := (M, ρ)) (σ' := (ao_u M i x.toNatClampNeg y, ρ)) hR rfl (fun a ha => ⟨?_, rfl⟩) z oq (ao_at_st (σ := (M, ρ)) (σ' := (ao_u M i x.toNatClampNeg y, ρ)) (t := 3) (by omega) hk rfl e1 ?_ (fun j hj => ⟨?_, rfl⟩))) (ao_S_put hS z oq) hc hs hl
  · funext j
    simp [ao_u, ha]
  · show Value.long _ = Value.long _
    simp [ao_u]
  · simp [ao_u, hj]
theorem an_laload (i : Nat) {x : Int32} (hd : decode μ.2.1 pc = .ok (.laload, 1)) (hk : ρ.2.1 i = 3) (hin : ¬ (x < 0 ∨ ρ.2.2.1 i ≤ x.toNatClampNeg))
    (kk : ao_W Γ μ R Q mc ms (pc + 1) lo (.long (M i x.toNatClampNeg).toInt64 :: st) (M, ρ)) : ao_W Γ μ R Q mc ms pc lo (.int x :: .ref (Γ.2.2.2 + i) :: st) (M, ρ) := by
  refine ao_step (fun p e s m args below meth c H locs cells slots ls hX hR hl kk => ?_) kk
  have hlt : x.toNatClampNeg < ρ.2.2.1 i := Nat.not_le.mp fun q => hin (Or.inr q)
  exact W.lald (v := .long (M i x.toNatClampNeg).toInt64) hX.1 hX.2.1 ((hR.2.1 i).1 3 (by omega) hk) ((ao_tyAt hX.2.2.2.2.2.2.2.2.2 (k := 3) (by omega)).1 _ _) (fun q => by cases q) (by rw [arrV_size]; exact hin) (by rw [arrV_read _ _ hlt]; rfl) rfl rfl hd kk
end AoZ
