/-! ===== the heap as functions: of a thing's number, of a place in it ===== -/
/-- numbers held, references held, kinds, lengths, (while it is known) how many things there are; cells and slots made so far -/
abbrev ao_S : Type := (Nat → Nat → Int32) × (Nat → Nat → Option Nat) × (Nat → Nat) × (Nat → Nat) × Option Nat × Nat × Nat
/-- launch, classes and slots, classes of arrays, where the first new thing lies -/
abbrev ao_C : Type := Launch × va_G × (Nat → ClassId) × Nat
/-- a method: name, code, locals, what it answers, its table -/
abbrev ao_Mi : Type := MethodName × ByteArray × Nat × Option FieldType × List (Nat × Nat × Nat × Nat)
abbrev ao_Po : Type := (Option Value ⊕ String) → ao_S → Prop
/-- the words that all methods share -/
def ao_G : List Cond := lw_tbl.filter goodWord
theorem ao_Gm {w : Cond} (h : w ∈ lw_tbl) (g : goodWord w = true) : w ∈ ao_G := List.mem_filter.mpr ⟨h, g⟩
theorem ao_Gi {w : Cond} (k : Nat) (h : lw_tbl[k]? = some w) (g : goodWord w = true) : w ∈ ao_G := ao_Gm (List.mem_of_getElem? h) g
theorem ao_Gg {w : Cond} (h : w ∈ ao_G) : goodWord w = true := (List.mem_filter.mp h).2
def ao_v (b t : Nat) (m : Int32) (f : Option Nat) : Value := match t with
  | 0 => .int m
  | 1 => .long m.toInt64
  | _ => va_rf (f.map (fun i => b + i))
def ao_ty (ci : Nat) : Nat → FieldType := match ci with
  | 0 => tyX0
  | 1 => tyX1
  | 2 => tyX2
  | 3 => tyX3
  | 4 => tyX4
  | 5 => tyX5
  | 6 => tyX6
  | 7 => tyX7
  | 8 => tyX8
  | 9 => tyX9
  | 10 => tyX10
  | 11 => tyX11
  | _ => tyX12
def ao_fs (t : FieldType) : Nat := match t with
  | .object _ => 2
  | .array _ => 2
  | .long => 1
  | _ => 0
abbrev ao_ft (ci k : Nat) : Nat := ao_fs (ao_ty ci k)
def ao_et (k : Nat) : FieldType := match k with
  | 0 => .int
  | 1 => .byte
  | 2 => .boolean
  | 3 => .long
  | 4 => .object RX7
  | 5 => .object RX3
  | _ => .array .int
abbrev ao_ec (k : Nat) : Nat := ao_fs (ao_et k)
/-- thing i of s lies in H -/
def ao_at (Γ : ao_C) (σ : ao_S) (i : Nat) (H : Heap) : Prop :=
  (∀ k, k < 7 → σ.2.2.1 i = k → H[Γ.2.2.2 + i]? = some (arrV (Γ.2.2.1 k) (σ.2.2.2.1 i) (fun j => ao_v Γ.2.2.2 (ao_ec k) (σ.1 i j) (σ.2.1 i j)))) ∧
  (∀ (ci : Nat) (q : vw_C), vwCl[ci]? = some q → σ.2.2.1 i = 10 + ci → t_OB (Γ.2.2.2 + i) (Γ.2.1.1 ci) q.2.2 (Γ.2.1.2 ci) H (fun k => ao_v Γ.2.2.2 (ao_ft ci k) (σ.1 i k) (σ.2.1 i k)))
def ao_Rp (Γ : ao_C) (σ : ao_S) (H : Heap) : Prop := Γ.2.2.2 ≤ H.size ∧ (∀ i, ao_at Γ σ i H) ∧ ∀ n, σ.2.2.2.2.1 = some n → H.size = Γ.2.2.2 + n
abbrev ao_fr (Γ : ao_C) : Nat → Prop := fun q => Γ.2.2.2 ≤ q
def ao_tys (Γ : ao_C) : List (ClassId × FieldType) := (List.range 7).map fun k => (Γ.2.2.1 k, ao_et k)
/-- the texts whose letters are read: whose constant, its entry, its letters -/
def ao_txt : List (String × Nat × String) := [(RX9, 83, "if"), (RX9, 89, "else"), (RX9, 91, "while"), (RX9, 93, "say"), (RX9, 95, "atom"), (RX9, 97, "part"), (RX9, 99, "or"), (RX9, 101, "retry"), (RX9, 103, "quit"), (RX9, 105, "fail"), (RX9, 107, "try"), (RX9, 109, "catch"), (RX12, 21, "if else while say atom part or retry quit fail try catch ")]
def ao_len : List Nat := ao_txt.map fun q => q.2.2.length
def ao_byt : List (List Int32) := ao_txt.map fun q => q.2.2.toList.map fun c => Int32.ofNat c.toNat
/-- where text i and its letters lie -/
def ao_tK (Γ : ao_C) (i : Nat) : Nat := Γ.2.2.1 (100 + i)
def ao_tV (Γ : ao_C) (i : Nat) : Nat := Γ.2.2.1 (200 + i)
def ao_KT (Γ : ao_C) (U : State) : Prop := vk_S 13 ao_len ao_byt (ao_tK Γ) (ao_tV Γ) (ao_fr Γ) U U.heap ∧ ∀ (i : Nat) (q : String × Nat × String), ao_txt[i]? = some q → vk_R q.1 q.2.1 q.2.2 (ao_tK Γ i) U
def ao_AOA (U : State) : Prop := (Cond.arrayOver (.array .int)).before #[] U = true
theorem ao_AOA_use {A : Array Value} {U : State} (h : ao_AOA U) : (Cond.arrayOver (.array .int)).before A U = true := h
theorem ao_AOA_moved {u U : State} (hvm : u.vm.Alike U.vm) (h : ao_AOA u) : ao_AOA U := by
  obtain ⟨comp, c, k, h1, h2, h3, h4, h5⟩ := arrayOverA_spec h
  obtain ⟨k', hk', he⟩ := hvm.2.2 _ _ h3
  have hi : (U.vm.classes.findIdx? fun (x : Class) => match x.kind with | .array component _ => component == comp | _ => false) = some c := by
    have a := va_idx_bare U.vm comp
    have b := va_idx_bare u.vm comp
    first | rw [hvm.bare_eq] at a | rw [← hvm.bare_eq] at a
    exact (a.symm.trans b).trans h2
  have hkind : k'.kind = .array comp (.array .int) := by rw [he]; exact h4
  have f1 : U.vm.findClass (FieldType.array .int).toString = some comp := by rw [hvm.findClass]; exact h1
  have f2 : U.vm.findClass ("[" ++ (FieldType.array .int).toString) = some c := by rw [hvm.findClass]; exact h5
  unfold ao_AOA Cond.before Cond.holds
  simp only [Cond.value]
  rw [f1, Option.bind_some]
  refine (congrArg (fun o : Option Nat => (o.bind (fun c => (U.vm.classes[c]?).map fun (k : Class) => match k.kind with | .array _ ty => decide (ty = FieldType.array .int) && decide (U.vm.findClass ("[" ++ (FieldType.array .int).toString) = some c) | _ => false) == some true)) hi).trans ?_
  simp [hk', hkind, f2]
def ao_nc : List (String × String) := [("java/lang/IllegalStateException", "java/lang/IllegalArgumentException"), ("java/lang/UnsupportedOperationException", "java/lang/IllegalArgumentException"), ("java/lang/UnsupportedOperationException", "java/lang/IllegalStateException"), ("java/lang/IndexOutOfBoundsException", "java/lang/IllegalArgumentException")]
/-- words on the tables that aren't among those that all share -/
def ao_KB (Γ : ao_C) (U : State) : Prop :=
  (∀ x, Cond.declares x ∈ lw_tbl → va_Nw (.declares x) U) ∧ (∀ C T, Cond.castable C T ∈ lw_tbl → va_Nw (.castable C T) U) ∧ (∀ a i x h, Cond.methodLinkNest a i x h ∈ lw_tbl → va_Nw (.methodLinkNest a i x h) U) ∧ (∀ q ∈ ao_nc, va_Nc q.1 q.2 U) ∧ (va_AO RX7 U ∧ va_AO RX3 U ∧ ao_AOA U) ∧ va_Z "java/lang/String" "COMPACT_STRINGS" "Z" (.int 1) (ao_fr Γ) U U.heap ∧ va_Zq "jdk/internal/util/Preconditions" "SIOOBE_FORMATTER" "Ljava/util/function/BiFunction;" (ao_fr Γ) U U.heap
theorem ao_KB_next {Γ : ao_C} {s U : State} (h : ao_KB Γ s) (hW : s.WarmedH U.vm) (hq : ∀ a : Nat, a < s.heap.size → ¬ ao_fr Γ a → U.heap[a]? = s.heap[a]?) : ao_KB Γ U :=
  ⟨fun x hx => va_Nw.warmD hW (h.1 x hx), fun C T hx => va_Nw.warmC hW (h.2.1 C T hx), fun a i x g hx => va_Nw.warmM hW (h.2.2.1 a i x g hx), fun q hq' => (h.2.2.2.1 q hq').moved hW.alike, ⟨h.2.2.2.2.1.1.moved hW.alike, h.2.2.2.2.1.2.1.moved hW.alike, ao_AOA_moved hW.alike h.2.2.2.2.1.2.2⟩, (h.2.2.2.2.2.1.kept hq).moved hW.alike, va_Zq.moved hW.alike (va_Zq.kept h.2.2.2.2.2.2 hq)⟩
/-- what a method may take as given of the tables and of what was there before -/
def ao_K (Γ : ao_C) (U : State) : Prop :=
  va_K Γ.2.1 vwCl (ao_tys Γ) U ∧ Γ.1.stackTraces = false ∧ vx_Zq Jvm.Bundle.tN "UNASSIGNED_STACK" Jvm.Bundle.steD (ao_fr Γ) U U.heap ∧ vx_Zq Jvm.Bundle.tN "SUPPRESSED_SENTINEL" Jvm.Bundle.listD (ao_fr Γ) U U.heap ∧
  (∀ (own : String) (k : Nat) (tx : String), Cond.stringRef own k tx ∈ lw_tbl → ∃ a, vk_R own k tx a U) ∧ ao_KT Γ U ∧ ao_KB Γ U
theorem ao_K_next {Γ : ao_C} {s U : State} {locs : List Loc} (h : ao_K Γ s) (hW : s.WarmedH U.vm) (hS : va_S (ao_fr Γ) s.heap U.heap locs) : ao_K Γ U := by
  obtain ⟨h1, h2, h3, h4, h5, ⟨h6, h7⟩, h8⟩ := h
  have hq : ∀ a : Nat, a < s.heap.size → ¬ ao_fr Γ a → U.heap[a]? = s.heap[a]? := fun a ha hA => hS.2.1 a ha hA
  exact ⟨va_K.moved hW.alike h1, h2, vx_Zq.moved hW.alike (h3.kept hq), vx_Zq.moved hW.alike (h4.kept hq),
    fun own k tx hm => (h5 own k tx hm).elim fun a ha => ⟨a, ha.warm hW⟩, ⟨(vk_S.kept h6 hq).moved hW.alike, fun i q hi => (h7 i q hi).warm hW⟩, ao_KB_next h8 hW hq⟩
theorem ao_K_call {Γ : ao_C} {U : State} (g : JFrame) (mk : MethodId) (a : Array Value) (h : ao_K Γ U) : ao_K Γ (U.calling g mk a) :=
  ao_K_next (s := U) (locs := []) h (State.WarmedH.refl U) (va_S.rf (H0 := U.heap))
/-- the classes' words -/
theorem ao_gl (C : String) (T : u_T) (k : Nat) : goodWord (u_lay C T k) = true := by
  unfold u_lay
  split <;> rfl
theorem ao_up {C : String} {T : u_T} {N : Nat} (h : ∀ w ∈ u_ws C T N, w ∈ lw_tbl) : ∀ w ∈ u_ws C T N, w ∈ ao_G := by
  intro w hw
  refine ao_Gm (h w hw) ?_
  unfold u_ws at hw
  obtain ⟨k, -, rfl⟩ := List.mem_map.mp hw
  exact ao_gl C T k
theorem ao_ck {ci : Nat} {q : vw_C} (h : vwCl[ci]? = some q) : (∀ w ∈ u_ws q.1 q.2.1 q.2.2, w ∈ ao_G) ∧ (∀ k, k < q.2.2 → parseFieldDescriptor (q.2.1 k).2.2.1 = some (ao_ty ci k)) ∧ (∀ a, a < q.2.2 → ∀ b, b < q.2.2 → a ≠ b → (q.2.1 a).2.1 ≠ (q.2.1 b).2.1) := by
  match ci, h with
  | 0, h => cases h; exact ⟨ao_up inX0, tyX0_ok, nmX0⟩
  | 1, h => cases h; exact ⟨ao_up inX1, tyX1_ok, nmX1⟩
  | 2, h => cases h; exact ⟨ao_up inX2, tyX2_ok, nmX2⟩
  | 3, h => cases h; exact ⟨ao_up inX3, tyX3_ok, nmX3⟩
  | 4, h => cases h; exact ⟨ao_up inX4, tyX4_ok, nmX4⟩
  | 5, h => cases h; exact ⟨ao_up inX5, tyX5_ok, nmX5⟩
  | 6, h => cases h; exact ⟨ao_up inX6, tyX6_ok, nmX6⟩
  | 7, h => cases h; exact ⟨ao_up inX7, tyX7_ok, nmX7⟩
  | 8, h => cases h; exact ⟨ao_up inX8, tyX8_ok, nmX8⟩
  | 9, h => cases h; exact ⟨ao_up inX9, tyX9_ok, nmX9⟩
  | 10, h => cases h; exact ⟨ao_up inX10, tyX10_ok, nmX10⟩
  | 11, h => cases h; exact ⟨ao_up inX11, tyX11_ok, nmX11⟩
  | 12, h => cases h; exact ⟨ao_up inX12, tyX12_ok, nmX12⟩
  | n + 13, h => simp [vwCl] at h
/-- inside a method: the machine, the code, the words -/
def ao_X (Γ : ao_C) (μ : ao_Mi) (p : Program) (s : State) (m : MethodId) (args : Array Value) (meth : Method) (c : Code) : Prop :=
  p.tables.exec = Jvm.exec ∧ c.code = μ.2.1 ∧ c.maxLocals = μ.2.2.1 ∧ meth.sig.returnType = μ.2.2.2.1 ∧ meth.locks = false ∧ meth.name = μ.1.name ∧ s.vm.findClass μ.1.cls = some m.cls ∧
  (∀ w ∈ ao_G, w.before args s = true) ∧ c.exceptionTable.toList = tableOf μ.2.2.2.2 ∧ ao_K Γ s
def ao_lo (ls : Array Slot) (nL : Nat) (lo : List (Option Value)) : Prop := ls.size = nL ∧ lv_wf ls ∧ ∀ (i : Nat) (v : Value), lo[i]? = some (some v) → ls[i]? = some (.val v) ∧ v.category = 1
/-- the machine at pc, locals lo, stack st, heap σ, mc cells and ms slots still to be had, comes to Q -/
def ao_W (Γ : ao_C) (μ : ao_Mi) (R : Room) (Q : List Frame → Array Value → State → State → Prop) (mc ms pc : Nat) (lo : List (Option Value)) (st : List Value) (σ : ao_S) : Prop :=
  ∀ (p : Program) (e : Env) (s : State) (m : MethodId) (args : Array Value) (below : List Frame) (meth : Method) (c : Code) (H : Heap) (locs : List Loc) (cells slots : Nat) (ls : Array Slot),
    ao_X Γ μ p s m args meth c → ao_Rp Γ σ H → va_S (ao_fr Γ) s.heap H locs → cells + mc ≤ R.cells → slots + ms ≤ R.slots → ao_lo ls μ.2.2.1 lo →
    W p Γ.1 e R s m args below meth c H locs cells slots (Q below args s) (F0 m pc ls st)
/-- q of class E is thrown over the frame at pc -/
def ao_T (Γ : ao_C) (μ : ao_Mi) (R : Room) (Q : List Frame → Array Value → State → State → Prop) (mc ms pc : Nat) (lo : List (Option Value)) (E : String) (σ : ao_S) : Prop :=
  ∀ (p : Program) (e : Env) (s : State) (m : MethodId) (args : Array Value) (below : List Frame) (meth : Method) (c : Code) (H : Heap) (locs : List Loc) (cells slots : Nat) (ls : Array Slot) (rest : List Value) (q : Addr) (ce : Cell),
    ao_X Γ μ p s m args meth c → ao_Rp Γ σ H → va_S (ao_fr Γ) s.heap H locs → cells + mc ≤ R.cells → slots + ms ≤ R.slots → ao_lo ls μ.2.2.1 lo →
    H[q]? = some ce → ce.vm = .none → s.vm.findClass E = some ce.cls →
    vx_W p Γ.1 e R s m args below meth c H locs cells slots (Q below args s) (F0 m pc ls rest) q
def ao_rm (d mc ms : Nat) : Room := { frames := d, cells := mc, slots := ms, locals := 64 * d }
def ao_ws (μ : ao_Mi) : List Cond := (match μ.2.2.2.2 with
  | [] => Cond.code μ.1 μ.2.1 μ.2.2.1 μ.2.2.2.1
  | _ => Cond.codeWith μ.1 μ.2.1 μ.2.2.1 μ.2.2.2.1 μ.2.2.2.2) :: ao_G
def ao_Pc (Γ : ao_C) (σ : ao_S) (as : List Value) : Array Value → State → Prop := fun a U => a = as.toArray ∧ ao_Rp Γ σ U.heap ∧ ao_K Γ U
def ao_Qc (Γ : ao_C) (Φ : ao_Po) : Array Value → State → Outcome → State → Prop := fun _ st o t => ∃ (r : Option Value) (σ' : ao_S), o = .returned r ∧ Φ (.inl r) σ' ∧ ao_Rp Γ σ' t.heap ∧ va_F (ao_fr Γ) st t
def ao_XC (Γ : ao_C) (Φ : ao_Po) : String → State → State → Prop := fun E st t => ∃ σ' : ao_S, Φ (.inr E) σ' ∧ ao_Rp Γ σ' t.heap ∧ va_F (ao_fr Γ) st t
/-- the contract of a method -/
def ao_A (Γ : ao_C) (μ : ao_Mi) (d mc ms : Nat) (as : List Value) (σ : ao_S) (Φ : ao_Po) : Prop :=
  vx_Met Γ.1 μ.1 (ao_ws μ) (ao_rm d mc ms) (ao_Pc Γ σ as) (ao_Qc Γ Φ) (ao_XC Γ Φ) mc ms (ao_fr Γ)
/-- what a body owes -/
def ao_Q (Γ : ao_C) (Φ : ao_Po) (mc ms : Nat) : List Frame → Array Value → State → State → Prop := fun below args s => vx_MQ below (ao_Qc Γ Φ) (ao_XC Γ Φ) args s mc ms (ao_fr Γ)
theorem ao_Pc_blind {Γ : ao_C} {σ : ao_S} {as : List Value} : FrameBlind (ao_Pc Γ σ as) := fun _ _ g mk h => ⟨h.1, h.2.1, ao_K_call g mk _ h.2.2⟩
theorem ao_tb : tableOf [] = [] := rfl
/-- a body without a table gives the contract -/
theorem ao_of {Γ : ao_C} {y : MethodName} {cc : ByteArray} {nL : Nat} {ret : Option FieldType} {d mc ms : Nat} {as : List Value} {σ : ao_S} {Φ : ao_Po} (hy : plainName y.cls = true) (hc : ∀ v ∈ as, v.category = 1) (hn : as.length ≤ nL)
    (k : ao_W Γ (y, cc, nL, ret, []) (ao_rm d mc ms) (ao_Q Γ Φ mc ms) mc ms 0 (as.map some ++ List.replicate (nL - as.length) none) [] σ) : ao_A Γ (y, cc, nL, ret, []) d mc ms as σ Φ := by
  have hsl : lg_sl as = as.map Slot.val := by
    clear k hn
    induction as with
    | nil => rfl
    | cons v r ih =>
      have h1 : v.category = 1 := hc v List.mem_cons_self
      have h2 := ih (fun w hw => hc w (List.mem_cons_of_mem _ hw))
      unfold lg_sl at h2 ⊢
      rw [List.flatMap_cons, h2, if_neg (by omega)]
      rfl
  have hlen : (lg_sl as).length = as.length := by rw [hsl, List.length_map]
  refine vx_ofW (ws := ao_ws (y, cc, nL, ret, [])) (ws' := ao_G) (cc := cc) (maxL := nL) (ret := ret) hy rfl ?_
  intro p e s m args below meth c s₁ B hml ht hP
  obtain ⟨rfl, hRp, hK⟩ := hP
  have hts : ∀ w ∈ ao_ws (y, cc, nL, ret, []), w.before as.toArray s = true := atoms_spec (ws := ao_ws (y, cc, nL, ret, [])) B.pre
  have hl := lv_entry as (n := nL) (by rw [hlen]; exact hn)
  rw [lg_entry_eq]
  generalize hls : (lg_sl as ++ List.replicate (nL - (lg_sl as).length) Slot.unset).toArray = ls at hl ⊢
  refine k p e s m as.toArray below meth c s.heap [] 0 0 ls ⟨B.exec, B.bytes, hml, B.returns, B.notSynchronized, (name_of_methodNamed B.named B.method).1, findClass_of_methodNamed B.named, fun w hw => hts w (List.mem_cons_of_mem _ hw), ?_, hK⟩ hRp va_S.rf (by simp [ao_rm, headSpec]) (by simp [ao_rm, headSpec]) ⟨hl.1, hl.2.1, fun i v hi => ?_⟩
  · show c.exceptionTable.toList = []
    exact List.eq_nil_iff_forall_not_mem.mpr fun x hx => ht x hx
  · have hi' : i < as.length := by
      rcases Nat.lt_or_ge i as.length with h | h
      · exact h
      · rw [List.getElem?_append_right (by simpa using h)] at hi
        have := List.mem_of_getElem? hi
        simp at this
    rw [List.getElem?_append_left (by simpa using hi')] at hi
    simp only [List.getElem?_map, Option.map_eq_some_iff] at hi
    obtain ⟨w, hw, hwv⟩ := hi
    cases hwv
    refine ⟨?_, hc v (List.mem_of_getElem? hw)⟩
    rw [← hls, hsl]
    show (List.map Slot.val as ++ List.replicate (nL - (List.map Slot.val as).length) Slot.unset).toArray[i]? = some (Slot.val v)
    rw [List.getElem?_toArray, List.getElem?_append_left (by simpa using hi'), List.getElem?_map, hw]
    rfl
/-- the same state, one instruction further -/
theorem ao_step {Γ : ao_C} {μ : ao_Mi} {R : Room} {Q : List Frame → Array Value → State → State → Prop} {mc ms pc pc' : Nat} {lo : List (Option Value)} {st st' : List Value} {σ : ao_S}
    (h : ∀ (p : Program) (e : Env) (s : State) (m : MethodId) (args : Array Value) (below : List Frame) (meth : Method) (c : Code) (H : Heap) (locs : List Loc) (cells slots : Nat) (ls : Array Slot),
      ao_X Γ μ p s m args meth c → ao_Rp Γ σ H → ao_lo ls μ.2.2.1 lo → W p Γ.1 e R s m args below meth c H locs cells slots (Q below args s) (F0 m pc' ls st') → W p Γ.1 e R s m args below meth c H locs cells slots (Q below args s) (F0 m pc ls st))
    (k : ao_W Γ μ R Q mc ms pc' lo st' σ) : ao_W Γ μ R Q mc ms pc lo st σ :=
  fun p e s m args below meth c H locs cells slots ls hX hR hS hc hs hl => h p e s m args below meth c H locs cells slots ls hX hR hl (k p e s m args below meth c H locs cells slots ls hX hR hS hc hs hl)
