def R_law : String := "AsOneHouseLaw"
def lw_P (b : Addr) (xs : List Int32) (args : Array Value) (s : State) : Prop := args = #[.ref b] ∧ s.IntsAt b xs ∧ xs.length ≤ 3072 ∧ (Jvm.Cond.and given_1 narrow_1).before args s = true
def lw_Q (_ : Array Value) (s : State) (o : Outcome) (t : State) : Prop := o = .returned (some (.int 1)) ∧ Framed s o t [] 601024 7293034
def lw_Z (below : List Frame) (a : Array Value) (s : State) : State → Prop := fun t => ∃ o, t.status = .running ∧ Ended t below o ∧ lw_Q a s o t
/-- the law's own end, with 1 on the stack, nothing written that was there before, its room as the claim has it -/
theorem lw_ret {p : Program} {l : Launch} {e : Env} {s : State} {m : MethodId} {below : List Frame} {meth : Method} {c : Code} {b : Nat} (hx : p.tables.exec = Jvm.exec) (hb : c.code = code) (hr : meth.sig.returnType = ret) (hlocks : meth.locks = false) {pc : Nat} {H : Heap} {ls : Array Slot} (hdg : decode code pc = .ok (.ireturn, 1)) : W p l e room_1 s m #[Value.ref b] below meth c H [] 601024 7293034 (lw_Z below #[Value.ref b] s) (F0 m pc ls [.int 1]) := by
  intro T hT X
  obtain ⟨fs, hret, hrun, hended, hW, hframe⟩ := X.leave (v := some (.int 1)) (hlocks := hlocks) (fun h => by rw [hr] at h; cases h)
  have hmeth' : T.vm.method? m = some meth := X.method'
  refine ⟨T.setFrames fs, ?_, .returned (some (.int 1)), hrun, hended, rfl, ⟨_, rfl⟩, hW, hframe⟩
  jvm_step X.here [X.here.top, hx, hb, hdg, hmeth', hr, ret, narrow_b1]
  (try refine ⟨rfl, ?_⟩); (try refine ⟨rfl, ?_⟩)
  first | (intro acts; rw [hret _ acts rfl rfl rfl]) | rw [hret _ _ rfl rfl rfl]
  exact Steps.refl _
/-- what holds at the law's entry: the machine, the code, the tables' words (any of lw_tbl by 'hts w (by decide +kernel)'), the script of L ints xs at the cell b, what the Statement gives of the start (any of its parts by flat_of_before) -/
def lw_At (p : Program) (s : State) (m : MethodId) (meth : Method) (c : Code) (b L : Nat) (xs : Nat → Int32) : Prop :=
  p.tables.exec = Jvm.exec ∧ c.code = code ∧ meth.sig.returnType = ret ∧ c.maxLocals = 7 ∧ s.vm.findClass R_law = some m.cls ∧ (∀ w ∈ lw_tbl, w.before #[Value.ref b] s = true) ∧ va_X b L xs s s.heap ∧ b < s.heap.size ∧ meth.locks = false ∧ (Jvm.Cond.and given_1 narrow_1).before #[Value.ref b] s = true
/-! ===== rows for the law: calls of methods with a table, the script, the end ===== -/
def ao_cH (own : String) (index : Nat) (y : MethodName) (cc : ByteArray) (nL : Nat) (ret : Option FieldType) (hh : List (Nat × Nat × Nat × Nat)) (n : Nat) : Prop :=
  Cond.methodLink own index y ∈ ao_G ∧ Cond.codeWith y cc nL ret hh ∈ ao_G ∧ Cond.initialized y.cls ∈ ao_G ∧ y.cls ≠ "java/lang/invoke/MethodHandle" ∧ y.cls ≠ "java/lang/invoke/VarHandle" ∧ (parseMethodDescriptor y.desc).map (fun d => d.parameters.length) = some n
section LqC
variable {Γ : ao_C} {μ : ao_Mi} {R : Room} {Q : List Frame → Array Value → State → State → Prop} {mc ms mc2 ms2 pc : Nat} {lo : List (Option Value)} {st : List Value} {M : ao_M} {ρ : ao_H}
theorem lq_callSi {index n d mc' ms' nL : Nat} {y : MethodName} {cc : ByteArray} {ty : FieldType} {hh : List (Nat × Nat × Nat × Nat)} (As : List Value) {rest : List Value} {v : Int32 × ao_S}
    (hA : ao_A Γ (y, cc, nL, some ty, hh) d mc' ms' As (M, ρ) (ao_QI v)) (hh0 : ao_ws (y, cc, nL, some ty, hh) = Cond.codeWith y cc nL (some ty) hh :: ao_G) (hd : decode μ.2.1 pc = .ok (.invokestatic index, 3)) (hw : ao_cH μ.1.cls index y cc nL (some ty) hh n) (hi : Cond.static y ∈ ao_G)
    (hn : As.length = n) (hst : st = As.reverse ++ rest) (hrs : (rest.map fun v => v.category).sum ≤ 8) (hRm : d + 1 ≤ R.frames ∧ 8 + (nL + 11) + 64 * d ≤ R.locals) (hmc : mc' + mc2 ≤ mc) (hms : ms' + ms2 ≤ ms)
    (k : ao_W Γ μ R Q mc2 ms2 (pc + 3) lo (.int v.1 :: rest) (v.2.1, v.2.2)) : ao_W Γ μ R Q mc ms pc lo st (M, ρ) := by
  intro p e s m args below meth c H locs cells slots ls hX hR hS hc hs hl
  subst hst
  have hX' := hX
  obtain ⟨hx, hb, hml, -, -, -, hown, hts, -, hK⟩ := hX
  obtain ⟨w1, w2, w3, w4, w5, w6⟩ := hw
  have hin : ∀ w ∈ va_wsS μ.1.cls index y (ao_ws (y, cc, nL, some ty, hh)), w ∈ ao_G := by
    intro w h
    unfold va_wsS at h
    rw [hh0] at h
    simp only [List.cons_append, List.nil_append, List.mem_cons] at h
    rcases h with rfl | rfl | rfl | rfl | h
    · exact w1
    · exact hi
    · exact w3
    · exact w2
    · exact h
  refine ao_behind (vx_runSX (As := As) (rest := rest) (Ts := ao_G) (nL := μ.2.2.1) (g := F0 m pc ls (As.reverse ++ rest)) ⟨hx, hb, hml, hown, hts⟩ hA (vx_cwSW (ws' := ao_G) n hts (ao_good hin (fun _ h => h)) hh0 rfl rfl ⟨w4, w5, w6⟩ hRm) ⟨ao_Pc_blind, fun U hU hW => ao_pre hK hR hS hU hW⟩ rfl hn hl.1 rfl ?_ hd ⟨by omega, by omega⟩) hX' hS hl hc hs (by omega) (by omega) (fun r σ' h => ?_) (fun E σ' h => absurd h (ao_nyI E σ'))
  · show 2 * 0 + _ ≤ 8
    simpa using hrs
  · obtain ⟨h1, rfl⟩ := h
    cases h1
    exact ao_less (by omega) (by omega) k
theorem lq_callVi (i ci : Nat) {q : vw_C} {index n d mc' ms' nL : Nat} {y : MethodName} {cc : ByteArray} {ty : FieldType} {hh : List (Nat × Nat × Nat × Nat)} (As : List Value) {rest : List Value} {v : Int32 × ao_S}
    (hA : ao_A Γ (y, cc, nL, some ty, hh) d mc' ms' (.ref (Γ.2.2.2 + i) :: As) (M, ρ) (ao_QI v)) (hh0 : ao_ws (y, cc, nL, some ty, hh) = Cond.codeWith y cc nL (some ty) hh :: ao_G) (hd : decode μ.2.1 pc = .ok (.invokevirtual index, 3)) (hw : ao_cH μ.1.cls index y cc nL (some ty) hh n) (hi : Cond.instanceMethod y ∈ ao_G) (hse : Cond.selects q.1 y y ∈ ao_G) (hcl : y.cls = q.1)
    (hq : vwCl[ci]? = some q) (hk : ρ.2.1 i = 10 + ci) (hn : As.length = n) (hst : st = As.reverse ++ .ref (Γ.2.2.2 + i) :: rest) (hrs : (rest.map fun v => v.category).sum ≤ 8) (hRm : d + 1 ≤ R.frames ∧ 8 + (nL + 11) + 64 * d ≤ R.locals) (hmc : mc' + mc2 ≤ mc) (hms : ms' + ms2 ≤ ms)
    (k : ao_W Γ μ R Q mc2 ms2 (pc + 3) lo (.int v.1 :: rest) (v.2.1, v.2.2)) : ao_W Γ μ R Q mc ms pc lo st (M, ρ) := by
  intro p e s m args below meth c H locs cells slots ls hX hR hS hc hs hl
  subst hst
  have hX' := hX
  obtain ⟨hx, hb, hml, -, -, -, hown, hts, -, hK⟩ := hX
  obtain ⟨w1, w2, w3, w4, w5, w6⟩ := hw
  obtain ⟨cell, q1, q2, q3, q4⟩ := (hR.2.1 i).2 ci q hq hk
  have hfc := (hK.1.1 ci _ hq).2.1
  have hin : ∀ w ∈ wsV μ.1.cls index q.1 y (ao_ws (y, cc, nL, some ty, hh)), w ∈ ao_G := by
    intro w h
    unfold wsV at h
    rw [hh0] at h
    simp only [List.cons_append, List.nil_append, List.mem_cons] at h
    rcases h with rfl | rfl | rfl | rfl | rfl | h
    · exact w1
    · exact hi
    · exact hse
    · rw [← hcl]; exact w3
    · exact w2
    · exact h
  refine ao_behind (vx_runVX (C := q.1) (b := Γ.2.2.2 + i) (As := As) (rest := rest) (Ts := ao_G) (nL := μ.2.2.1) (g := F0 m pc ls (As.reverse ++ .ref (Γ.2.2.2 + i) :: rest)) ⟨hx, hb, hml, hown, hts⟩ hA (vx_cwVW (ws' := ao_G) n hts (ao_good hin (fun _ h => h)) hh0 rfl rfl ⟨hcl, w4, w5, w6⟩ hRm) ⟨ao_Pc_blind, ⟨cell, q1, by rw [q3]; rfl, by rw [q2]; exact hfc⟩, fun U hU hW => ao_pre hK hR hS hU hW⟩ rfl hn hl.1 rfl ?_ hd ⟨by omega, by omega⟩) hX' hS hl hc hs (by omega) (by omega) (fun r σ' h => ?_) (fun E σ' h => absurd h (ao_nyI E σ'))
  · show 2 * 0 + _ ≤ 8
    simpa using hrs
  · obtain ⟨h1, rfl⟩ := h
    cases h1
    exact ao_less (by omega) (by omega) k
end LqC
def lq_F (Γ : ao_C) (b L : Nat) (xs : Nat → Int32) (args : Array Value) (s : State) : Prop := va_X b L xs s s.heap ∧ s.heap.size = Γ.2.2.2 ∧ args = #[.ref b] ∧ b < s.heap.size
/-- the law's end, where the start was as the claim has it -/
def lq_Q (Γ : ao_C) (b L : Nat) (xs : Nat → Int32) : List Frame → Array Value → State → State → Prop := fun below args s t => lq_F Γ b L xs args s → lw_Z below args s t
theorem lq_or {Γ : ao_C} {b L : Nat} {xs : Nat → Int32} {p : Program} {e : Env} {R : Room} {s : State} {m : MethodId} {args : Array Value} {below : List Frame} {meth : Method} {c : Code} {H : Heap} {locs : List Loc} {cells slots : Nat} {g : JFrame}
    (h : lq_F Γ b L xs args s → W p Γ.1 e R s m args below meth c H locs cells slots (lq_Q Γ b L xs below args s) g) : W p Γ.1 e R s m args below meth c H locs cells slots (lq_Q Γ b L xs below args s) g := by
  by_cases hx : lq_F Γ b L xs args s
  · exact h hx
  · exact fun T hT X => ⟨_, Steps.refl _, fun h => absurd h hx⟩
theorem lq_hR {d nL : Nat} (h : d = 1001) (hn : nL ≤ 45) : (d - 1) + 1 ≤ room_1.frames ∧ 8 + (nL + 11) + 64 * (d - 1) ≤ room_1.locals := by
  subst h
  exact ⟨by decide, by show 8 + (nL + 11) + 64 * 1000 ≤ 84000; omega⟩
section LqS
variable {Γ : ao_C} {μ : ao_Mi} {R : Room} {mc ms pc b L : Nat} {xs : Nat → Int32} {lo : List (Option Value)} {st : List Value} {σ : ao_S}
theorem lq_sld {x : Int32} (hd : decode μ.2.1 pc = .ok (.iaload, 1)) (hin : ¬ (x < 0 ∨ L ≤ x.toNatClampNeg)) (k : ao_W Γ μ R (lq_Q Γ b L xs) mc ms (pc + 1) lo (.int (xs x.toNatClampNeg) :: st) σ) : ao_W Γ μ R (lq_Q Γ b L xs) mc ms pc lo (.int x :: .ref b :: st) σ := by
  intro p e s m args below meth c H locs cells slots ls hX hR hS hc hs hl
  refine lq_or (fun hq => ?_)
  exact va_sld hX.1 hX.2.1 hq.1 hq.2.2.2 (show ¬ ao_fr Γ b from fun h => by have h1 := hq.2.1; have h2 := hq.2.2.2; have h3 : Γ.2.2.2 ≤ b := h; omega) hS hin hd (k p e s m args below meth c H locs cells slots ls hX hR hS hc hs hl)
theorem lq_slen (hd : decode μ.2.1 pc = .ok (.arraylength, 1)) (k : ao_W Γ μ R (lq_Q Γ b L xs) mc ms (pc + 1) lo (.int (nI L) :: st) σ) : ao_W Γ μ R (lq_Q Γ b L xs) mc ms pc lo (.ref b :: st) σ := by
  intro p e s m args below meth c H locs cells slots ls hX hR hS hc hs hl
  refine lq_or (fun hq => ?_)
  exact va_slen hX.1 hX.2.1 hq.1 hq.2.2.2 (show ¬ ao_fr Γ b from fun h => by have h1 := hq.2.1; have h2 := hq.2.2.2; have h3 : Γ.2.2.2 ≤ b := h; omega) hS hd (k p e s m args below meth c H locs cells slots ls hX hR hS hc hs hl)
theorem lq_ret (hd : decode code pc = .ok (.ireturn, 1)) : ao_W Γ (yL_law, code, 7, ret, []) room_1 (lq_Q Γ b L xs) mc ms pc lo [.int 1] σ := by
  intro p e s m args below meth c H locs cells slots ls hX hR hS hc hs hl
  refine lq_or (fun hq => ?_)
  obtain ⟨h1, h2, rfl, h4⟩ := hq
  have key : W p Γ.1 e room_1 s m #[Value.ref b] below meth c H locs cells slots (lw_Z below #[Value.ref b] s) (F0 m pc ls [.int 1]) := by
    refine va_forget (fun q hq' => by have h5 : Γ.2.2.2 ≤ q.base := hS.2.2 q hq'; omega) ?_
    have hc' : cells + mc ≤ 601024 := hc
    have hs' : slots + ms ≤ 7293034 := hs
    refine W.widen (k := 601024) (n := 7293034) (by omega) (by omega) ?_
    exact lw_ret hX.1 hX.2.1 hX.2.2.2.1 hX.2.2.2.2.1 hd
  intro T hT X
  obtain ⟨t, a1, b1⟩ := key T hT X
  exact ⟨t, a1, fun _ => b1⟩
end LqS
