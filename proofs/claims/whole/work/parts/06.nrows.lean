/-! ===== rows for methods that make nothing and store no reference: the numbers M alone change, the rest ρ stays ===== -/
abbrev ao_M : Type := Nat → Nat → Int32
abbrev ao_H : Type := (Nat → Nat → Option Nat) × (Nat → Nat) × (Nat → Nat) × Option Nat × Nat × Nat
def ao_u (M : ao_M) (i k : Nat) (x : Int32) : ao_M := fun a j => if a = i ∧ j = k then x else M a j
def ao_let {α β : Type} (v : α) (f : α → β) : β := f v
theorem ao_letD {α β : Type} {v x : α} {f : α → Option β} {y : β} (h : ao_let v f = some y) (hx : x = v) : f x = some y := by subst hx; exact h
theorem ao_some {α : Type} {c : Prop} [Decidable c] {X : Option α} {y : α} (h : (if c then X else none) = some y) : c ∧ X = some y := by
  by_cases hc : c
  · rw [if_pos hc] at h; exact ⟨hc, h⟩
  · rw [if_neg hc] at h; cases h
theorem ao_ifT {α : Type} {c : Prop} [Decidable c] {A B : Option α} {y : α} (h : (if c then A else B) = some y) (hc : c) : A = some y := by rw [if_pos hc] at h; exact h
theorem ao_ifF {α : Type} {c : Prop} [Decidable c] {A B : Option α} {y : α} (h : (if c then A else B) = some y) (hc : ¬ c) : B = some y := by rw [if_neg hc] at h; exact h
theorem ao_bind {α β : Type} {o : Option α} {f : α → Option β} {y : β} (h : o.bind f = some y) : ∃ a, o = some a ∧ f a = some y := by
  cases o with
  | none => cases h
  | some a => exact ⟨a, rfl, h⟩
theorem ao_inj {α : Type} {a b : α} (h : some a = some b) : b = a := (Option.some.inj h).symm
theorem ao_nb {x : Int32} (h : x = 0 ∨ x = 1) : narrow .boolean (.int x) = .int x := by rcases h with rfl | rfl <;> rfl
theorem ao_fb {x : Int32} (h : x = 0 ∨ x = 1) : fits .boolean (.int x) = true := by rcases h with rfl | rfl <;> rfl
/-- it answers an int, the numbers are as y has them -/
def ao_PI (ρ : ao_H) (y : Int32 × ao_M) : ao_Po := fun o s => o = .inl (some (.int y.1)) ∧ s = (y.2, ρ)
def ao_PV (ρ : ao_H) (y : ao_M) : ao_Po := fun o s => o = .inl none ∧ s = (y, ρ)
def ao_PR (Γ : ao_C) (ρ : ao_H) (y : Nat × ao_M) : ao_Po := fun o s => o = .inl (some (.ref (Γ.2.2.2 + y.1))) ∧ s = (y.2, ρ)
theorem ao_nxI {ρ : ao_H} {y : Int32 × ao_M} : ao_nx (ao_PI ρ y) := fun _ _ h => nomatch h.1
theorem ao_nxV {ρ : ao_H} {y : ao_M} : ao_nx (ao_PV ρ y) := fun _ _ h => nomatch h.1
theorem ao_nxR {Γ : ao_C} {ρ : ao_H} {y : Nat × ao_M} : ao_nx (ao_PR Γ ρ y) := fun _ _ h => nomatch h.1
theorem ao_hR {d nL mc ms : Nat} (h : 1 ≤ d) (hn : nL ≤ 45) : (d - 1) + 1 ≤ (ao_rm d mc ms).frames ∧ 8 + (nL + 11) + 64 * (d - 1) ≤ (ao_rm d mc ms).locals := by
  refine ⟨by show (d - 1) + 1 ≤ d; omega, by show 8 + (nL + 11) + 64 * (d - 1) ≤ 64 * d; omega⟩
section AoN
variable {Γ : ao_C} {μ : ao_Mi} {R : Room} {Q : List Frame → Array Value → State → State → Prop} {mc ms pc : Nat} {lo : List (Option Value)} {st : List Value} {M : ao_M} {ρ : ao_H}
theorem an_topi {x : Int32} (k : ∀ y : Int32, y = x → ao_W Γ μ R Q mc ms pc lo (.int y :: st) (M, ρ)) : ao_W Γ μ R Q mc ms pc lo (.int x :: st) (M, ρ) := k x rfl
theorem an_topM {M' : ao_M} (k : ∀ N : ao_M, N = M' → ao_W Γ μ R Q mc ms pc lo st (N, ρ)) : ao_W Γ μ R Q mc ms pc lo st (M', ρ) := k M' rfl
theorem an_getI (i ci k : Nat) {q : vw_C} {index : Nat} (hd : decode μ.2.1 pc = .ok (.getfield index, 3)) (hq : vwCl[ci]? = some q) (hk : ρ.2.1 i = 10 + ci) (hkn : k < q.2.2) (ht : ao_ft ci k = 0)
    (hw : Cond.fieldLink μ.1.cls index (q.2.1 k).1 (q.2.1 k).2.1 (q.2.1 k).2.2.1 ∈ ao_G) (kk : ao_W Γ μ R Q mc ms (pc + 3) lo (.int (M i k) :: st) (M, ρ)) : ao_W Γ μ R Q mc ms pc lo (.ref (Γ.2.2.2 + i) :: st) (M, ρ) :=
  ao_getI (σ := (M, ρ)) i ci k hd hq hk hkn ht hw kk
theorem an_getR (i ci k : Nat) {j : Nat} {q : vw_C} {index : Nat} (hd : decode μ.2.1 pc = .ok (.getfield index, 3)) (hq : vwCl[ci]? = some q) (hk : ρ.2.1 i = 10 + ci) (hkn : k < q.2.2) (ht : ao_ft ci k = 2)
    (hw : Cond.fieldLink μ.1.cls index (q.2.1 k).1 (q.2.1 k).2.1 (q.2.1 k).2.2.1 ∈ ao_G) (hf : ρ.1 i k = some j) (kk : ao_W Γ μ R Q mc ms (pc + 3) lo (.ref (Γ.2.2.2 + j) :: st) (M, ρ)) : ao_W Γ μ R Q mc ms pc lo (.ref (Γ.2.2.2 + i) :: st) (M, ρ) :=
  ao_getR (σ := (M, ρ)) i ci k j hd hq hk hkn ht hw hf kk
theorem an_putI (i ci k : Nat) {q : vw_C} {index : Nat} {x : Int32} (hd : decode μ.2.1 pc = .ok (.putfield index, 3)) (hq : vwCl[ci]? = some q) (hk : ρ.2.1 i = 10 + ci) (hkn : k < q.2.2)
    (hw : Cond.fieldLink μ.1.cls index (q.2.1 k).1 (q.2.1 k).2.1 (q.2.1 k).2.2.1 ∈ ao_G) (hfin : (q.2.1 k).2.2.2 = false) (ht : ao_ft ci k = 0) (hn : narrow (ao_ty ci k) (.int x) = .int x) (hft : fits (ao_ty ci k) (.int x) = true)
    (kk : ∀ N : ao_M, N = ao_u M i k x → ao_W Γ μ R Q mc ms (pc + 3) lo st (N, ρ)) : ao_W Γ μ R Q mc ms pc lo (.int x :: .ref (Γ.2.2.2 + i) :: st) (M, ρ) :=
  ao_putI (σ := (M, ρ)) i ci k hd hq hk hkn hw (Or.inl hfin) ht hn hft (kk _ rfl)
theorem an_iaload (i : Nat) {x : Int32} (hd : decode μ.2.1 pc = .ok (.iaload, 1)) (hk : ρ.2.1 i = 0) (hin : ¬ (x < 0 ∨ ρ.2.2.1 i ≤ x.toNatClampNeg))
    (kk : ao_W Γ μ R Q mc ms (pc + 1) lo (.int (M i x.toNatClampNeg) :: st) (M, ρ)) : ao_W Γ μ R Q mc ms pc lo (.int x :: .ref (Γ.2.2.2 + i) :: st) (M, ρ) := ao_iaload (σ := (M, ρ)) i hd hk hin kk
theorem an_baload (i : Nat) {x : Int32} (hd : decode μ.2.1 pc = .ok (.baload, 1)) (hk : ρ.2.1 i = 1) (hin : ¬ (x < 0 ∨ ρ.2.2.1 i ≤ x.toNatClampNeg))
    (kk : ao_W Γ μ R Q mc ms (pc + 1) lo (.int (M i x.toNatClampNeg) :: st) (M, ρ)) : ao_W Γ μ R Q mc ms pc lo (.int x :: .ref (Γ.2.2.2 + i) :: st) (M, ρ) := ao_baload (σ := (M, ρ)) i hd hk hin kk
theorem an_zaload (i : Nat) {x : Int32} (hd : decode μ.2.1 pc = .ok (.baload, 1)) (hk : ρ.2.1 i = 2) (hin : ¬ (x < 0 ∨ ρ.2.2.1 i ≤ x.toNatClampNeg))
    (kk : ao_W Γ μ R Q mc ms (pc + 1) lo (.int (M i x.toNatClampNeg) :: st) (M, ρ)) : ao_W Γ μ R Q mc ms pc lo (.int x :: .ref (Γ.2.2.2 + i) :: st) (M, ρ) := ao_zaload (σ := (M, ρ)) i hd hk hin kk
theorem an_aaload (i t : Nat) {j : Nat} {x : Int32} (hd : decode μ.2.1 pc = .ok (.aaload, 1)) (hk : ρ.2.1 i = t) (ht : 4 ≤ t ∧ t < 7) (hin : ¬ (x < 0 ∨ ρ.2.2.1 i ≤ x.toNatClampNeg)) (hf : ρ.1 i x.toNatClampNeg = some j)
    (kk : ao_W Γ μ R Q mc ms (pc + 1) lo (.ref (Γ.2.2.2 + j) :: st) (M, ρ)) : ao_W Γ μ R Q mc ms pc lo (.int x :: .ref (Γ.2.2.2 + i) :: st) (M, ρ) := ao_aaload (σ := (M, ρ)) i t j hd hk ht hin hf kk
theorem an_alen (i t : Nat) (hd : decode μ.2.1 pc = .ok (.arraylength, 1)) (hk : ρ.2.1 i = t) (ht : t < 7)
    (kk : ao_W Γ μ R Q mc ms (pc + 1) lo (.int (nI (ρ.2.2.1 i)) :: st) (M, ρ)) : ao_W Γ μ R Q mc ms pc lo (.ref (Γ.2.2.2 + i) :: st) (M, ρ) := ao_alen (σ := (M, ρ)) i t hd hk ht kk
theorem an_iastore (i : Nat) {x y : Int32} (hd : decode μ.2.1 pc = .ok (.iastore, 1)) (hk : ρ.2.1 i = 0) (hin : ¬ (x < 0 ∨ ρ.2.2.1 i ≤ x.toNatClampNeg))
    (kk : ∀ N : ao_M, N = ao_u M i x.toNatClampNeg y → ao_W Γ μ R Q mc ms (pc + 1) lo st (N, ρ)) : ao_W Γ μ R Q mc ms pc lo (.int y :: .int x :: .ref (Γ.2.2.2 + i) :: st) (M, ρ) := ao_iastore (σ := (M, ρ)) i hd hk hin (kk _ rfl)
theorem an_bastore (i : Nat) {x y : Int32} (hd : decode μ.2.1 pc = .ok (.bastore, 1)) (hk : ρ.2.1 i = 1) (hin : ¬ (x < 0 ∨ ρ.2.2.1 i ≤ x.toNatClampNeg))
    (kk : ∀ N : ao_M, N = ao_u M i x.toNatClampNeg y.toInt8.toInt32 → ao_W Γ μ R Q mc ms (pc + 1) lo st (N, ρ)) : ao_W Γ μ R Q mc ms pc lo (.int y :: .int x :: .ref (Γ.2.2.2 + i) :: st) (M, ρ) := ao_bastore (σ := (M, ρ)) i hd hk hin (kk _ rfl)
theorem an_zastore (i : Nat) {x y : Int32} (hd : decode μ.2.1 pc = .ok (.bastore, 1)) (hk : ρ.2.1 i = 2) (hin : ¬ (x < 0 ∨ ρ.2.2.1 i ≤ x.toNatClampNeg)) (hy : narrow .boolean (.int y) = .int y)
    (kk : ∀ N : ao_M, N = ao_u M i x.toNatClampNeg y → ao_W Γ μ R Q mc ms (pc + 1) lo st (N, ρ)) : ao_W Γ μ R Q mc ms pc lo (.int y :: .int x :: .ref (Γ.2.2.2 + i) :: st) (M, ρ) := ao_zastore (σ := (M, ρ)) i hd hk hin hy (kk _ rfl)
theorem an_callVi (i ci : Nat) {q : vw_C} {index n d nL : Nat} {y : MethodName} {cc : ByteArray} {ty : FieldType} (As : List Value) {rest : List Value} {v : Int32 × ao_M}
    (hA : ao_A Γ (y, cc, nL, some ty, []) d 0 0 (.ref (Γ.2.2.2 + i) :: As) (M, ρ) (ao_PI ρ v)) (hd : decode μ.2.1 pc = .ok (.invokevirtual index, 3)) (hw : ao_cB μ.1.cls index y cc nL (some ty) n) (hi : Cond.instanceMethod y ∈ ao_G) (hse : Cond.selects q.1 y y ∈ ao_G)
    (hq : vwCl[ci]? = some q) (hk : ρ.2.1 i = 10 + ci) (hn : As.length = n) (hst : st = As.reverse ++ .ref (Γ.2.2.2 + i) :: rest) (hrs : (rest.map fun v => v.category).sum ≤ 8) (hRm : d + 1 ≤ R.frames ∧ 8 + (nL + 11) + 64 * d ≤ R.locals)
    (k : ao_W Γ μ R Q mc ms (pc + 3) lo (.int v.1 :: rest) (v.2, ρ)) : ao_W Γ μ R Q mc ms pc lo st (M, ρ) :=
  ao_callV (σ := (M, ρ)) i ci As hA ao_nxI hd hw hi hse hq hk hn hst hrs hRm (Nat.zero_le _) (Nat.zero_le _) (fun r σ' h => by
    obtain ⟨h1, rfl⟩ := h
    cases h1
    exact k)
theorem an_callVv (i ci : Nat) {q : vw_C} {index n d nL : Nat} {y : MethodName} {cc : ByteArray} (As : List Value) {rest : List Value} {v : ao_M}
    (hA : ao_A Γ (y, cc, nL, none, []) d 0 0 (.ref (Γ.2.2.2 + i) :: As) (M, ρ) (ao_PV ρ v)) (hd : decode μ.2.1 pc = .ok (.invokevirtual index, 3)) (hw : ao_cB μ.1.cls index y cc nL none n) (hi : Cond.instanceMethod y ∈ ao_G) (hse : Cond.selects q.1 y y ∈ ao_G)
    (hq : vwCl[ci]? = some q) (hk : ρ.2.1 i = 10 + ci) (hn : As.length = n) (hst : st = As.reverse ++ .ref (Γ.2.2.2 + i) :: rest) (hrs : (rest.map fun v => v.category).sum ≤ 8) (hRm : d + 1 ≤ R.frames ∧ 8 + (nL + 11) + 64 * d ≤ R.locals)
    (k : ao_W Γ μ R Q mc ms (pc + 3) lo rest (v, ρ)) : ao_W Γ μ R Q mc ms pc lo st (M, ρ) :=
  ao_callV (σ := (M, ρ)) i ci As hA ao_nxV hd hw hi hse hq hk hn hst hrs hRm (Nat.zero_le _) (Nat.zero_le _) (fun r σ' h => by
    obtain ⟨h1, rfl⟩ := h
    cases h1
    exact k)
theorem an_callVr (i ci : Nat) {q : vw_C} {index n d nL : Nat} {y : MethodName} {cc : ByteArray} {ty : FieldType} (As : List Value) {rest : List Value} {v : Nat × ao_M}
    (hA : ao_A Γ (y, cc, nL, some ty, []) d 0 0 (.ref (Γ.2.2.2 + i) :: As) (M, ρ) (ao_PR Γ ρ v)) (hd : decode μ.2.1 pc = .ok (.invokevirtual index, 3)) (hw : ao_cB μ.1.cls index y cc nL (some ty) n) (hi : Cond.instanceMethod y ∈ ao_G) (hse : Cond.selects q.1 y y ∈ ao_G)
    (hq : vwCl[ci]? = some q) (hk : ρ.2.1 i = 10 + ci) (hn : As.length = n) (hst : st = As.reverse ++ .ref (Γ.2.2.2 + i) :: rest) (hrs : (rest.map fun v => v.category).sum ≤ 8) (hRm : d + 1 ≤ R.frames ∧ 8 + (nL + 11) + 64 * d ≤ R.locals)
    (k : ao_W Γ μ R Q mc ms (pc + 3) lo (.ref (Γ.2.2.2 + v.1) :: rest) (v.2, ρ)) : ao_W Γ μ R Q mc ms pc lo st (M, ρ) :=
  ao_callV (σ := (M, ρ)) i ci As hA ao_nxR hd hw hi hse hq hk hn hst hrs hRm (Nat.zero_le _) (Nat.zero_le _) (fun r σ' h => by
    obtain ⟨h1, rfl⟩ := h
    cases h1
    exact k)
theorem an_callSi {index n d nL : Nat} {y : MethodName} {cc : ByteArray} {ty : FieldType} (As : List Value) {rest : List Value} {v : Int32 × ao_M}
    (hA : ao_A Γ (y, cc, nL, some ty, []) d 0 0 As (M, ρ) (ao_PI ρ v)) (hd : decode μ.2.1 pc = .ok (.invokestatic index, 3)) (hw : ao_cB μ.1.cls index y cc nL (some ty) n) (hi : Cond.static y ∈ ao_G)
    (hn : As.length = n) (hst : st = As.reverse ++ rest) (hrs : (rest.map fun v => v.category).sum ≤ 8) (hRm : d + 1 ≤ R.frames ∧ 8 + (nL + 11) + 64 * d ≤ R.locals)
    (k : ao_W Γ μ R Q mc ms (pc + 3) lo (.int v.1 :: rest) (v.2, ρ)) : ao_W Γ μ R Q mc ms pc lo st (M, ρ) :=
  ao_callS (σ := (M, ρ)) As hA ao_nxI hd hw hi hn hst hrs hRm (Nat.zero_le _) (Nat.zero_le _) (fun r σ' h => by
    obtain ⟨h1, rfl⟩ := h
    cases h1
    exact k)
theorem an_callSv {index n d nL : Nat} {y : MethodName} {cc : ByteArray} (As : List Value) {rest : List Value} {v : ao_M}
    (hA : ao_A Γ (y, cc, nL, none, []) d 0 0 As (M, ρ) (ao_PV ρ v)) (hd : decode μ.2.1 pc = .ok (.invokestatic index, 3)) (hw : ao_cB μ.1.cls index y cc nL none n) (hi : Cond.static y ∈ ao_G)
    (hn : As.length = n) (hst : st = As.reverse ++ rest) (hrs : (rest.map fun v => v.category).sum ≤ 8) (hRm : d + 1 ≤ R.frames ∧ 8 + (nL + 11) + 64 * d ≤ R.locals)
    (k : ao_W Γ μ R Q mc ms (pc + 3) lo rest (v, ρ)) : ao_W Γ μ R Q mc ms pc lo st (M, ρ) :=
  ao_callS (σ := (M, ρ)) As hA ao_nxV hd hw hi hn hst hrs hRm (Nat.zero_le _) (Nat.zero_le _) (fun r σ' h => by
    obtain ⟨h1, rfl⟩ := h
    cases h1
    exact k)
end AoN
section AoNE
variable {Γ : ao_C} {μ : ao_Mi} {d MC MS mc ms pc : Nat} {lo : List (Option Value)} {M : ao_M} {ρ : ao_H}
theorem an_ireturn {x : Int32} {ty : FieldType} (hd : decode μ.2.1 pc = .ok (.ireturn, 1)) (hr : μ.2.2.2.1 = some ty) (hn : narrow ty (.int x) = .int x) {y : Int32 × ao_M} (h : some (x, M) = some y) : ao_W Γ μ (ao_rm d MC MS) (ao_Q Γ (ao_PI ρ y) MC MS) mc ms pc lo [.int x] (M, ρ) := by
  cases h
  exact ao_ireturn hd hr hn ⟨rfl, rfl⟩
theorem an_return (hd : decode μ.2.1 pc = .ok (.return_, 1)) (hr : μ.2.2.2.1 = none) {y : ao_M} (h : some M = some y) : ao_W Γ μ (ao_rm d MC MS) (ao_Q Γ (ao_PV ρ y) MC MS) mc ms pc lo [] (M, ρ) := by
  cases h
  exact ao_return hd hr ⟨rfl, rfl⟩
theorem an_areturn {a : Nat} {ty : FieldType} (hd : decode μ.2.1 pc = .ok (.areturn, 1)) (hr : μ.2.2.2.1 = some ty) (hty : (∃ n, ty = .object n) ∨ ∃ t, ty = .array t) {y : Nat × ao_M} (h : some (a, M) = some y) : ao_W Γ μ (ao_rm d MC MS) (ao_Q Γ (ao_PR Γ ρ y) MC MS) mc ms pc lo [.ref (Γ.2.2.2 + a)] (M, ρ) := by
  cases h
  exact ao_areturn hd hr hty ⟨rfl, rfl⟩
end AoNE
