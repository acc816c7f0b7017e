/-! ===== from the claim about functions to the claim about the machine ===== -/
def lq_M0 : ao_M := fun _ _ => 0
def lq_H0 : ao_H := (fun _ _ => none, fun _ => 99, fun _ => 0, some 0, 0, 0)
/-- all that is left of the claim: about functions alone -/
def lq_Pure : Prop := ∀ (L : Nat) (xs : Nat → Int32), L ≤ 3072 → ∃ (n : Nat) (y : Int32 × ao_S), gL_law L xs n lq_M0 lq_H0 = some y ∧ y.1 = 1 ∧ y.2.2.2.2.2.2.1 ≤ 601024 ∧ y.2.2.2.2.2.2.2 ≤ 7293034
def lq_tm (i : Nat) : Term := match ao_txt[i]? with
  | some q => .string q.1 q.2.1
  | none => .string "" 0
def lq_N : List Cond := flatC (Jvm.Cond.and given_1 narrow_1)
theorem lq_n1 : ∀ i, i < 13 → Cond.exactly (lq_tm i) "java/lang/String" ∈ lq_N := by decide +kernel
theorem lq_n2 : ∀ i, i < 13 → Cond.eq (.field (lq_tm i) "java/lang/String" "coder" "B") (.int 0) ∈ lq_N := by decide +kernel
theorem lq_n3 : ∀ i, i < 13 → Cond.arrayOf (.field (lq_tm i) "java/lang/String" "value" "[B") .byte ∈ lq_N := by decide +kernel
theorem lq_n4 : ∀ i, i < 13 → Cond.eq (.length (.field (lq_tm i) "java/lang/String" "value" "[B")) (.int (Int32.ofNat (ao_len.getD i 0))) ∈ lq_N := by decide +kernel
def lq_pos : List (List Nat) := [[208, 209], [214, 215, 216, 217], [222, 223, 224, 225, 226], [231, 232, 233], [238, 239, 240, 241], [246, 247, 248, 249], [254, 255], [260, 261, 262, 263, 264], [269, 270, 271, 272], [277, 278, 279, 280], [285, 286, 287], [292, 293, 294, 295, 296], [622, 623, 624, 625, 626, 627, 628, 629, 630, 631, 632, 633, 634, 635, 636, 637, 638, 639, 640, 641, 642, 643, 644, 645, 646, 647, 648, 649, 650, 651, 652, 653, 654, 655, 656, 657, 658, 659, 660, 661, 662, 663, 664, 665, 666, 667, 668, 669, 670, 671, 672, 673, 674, 675, 676, 677, 678]]
theorem lq_n5a : ∀ i, i < 13 → ∀ j, j < ao_len.getD i 0 → lq_N[(lq_pos.getD i []).getD j 0]? = some (Cond.eq (.elem (.field (lq_tm i) "java/lang/String" "value" "[B") (.int (Int32.ofNat j))) (.int ((ao_byt.getD i []).getD j 0))) := by decide +kernel
theorem lq_n5 : ∀ i, i < 13 → ∀ j, j < ao_len.getD i 0 → Cond.eq (.elem (.field (lq_tm i) "java/lang/String" "value" "[B") (.int (Int32.ofNat j))) (.int ((ao_byt.getD i []).getD j 0)) ∈ lq_N := fun i hi j hj => List.mem_of_getElem? (lq_n5a i hi j hj)
theorem lq_n6 : ∀ i, i < 13 → ∀ j, j < 13 → i ≠ j → ao_len.getD i 0 ≠ ao_len.getD j 0 ∨ ∃ k, k < ao_len.getD i 0 ∧ (ao_byt.getD i []).getD k 0 ≠ (ao_byt.getD j []).getD k 0 := by decide +kernel
theorem lq_n7 : ∀ i, i < 13 → ao_len.getD i 0 < 2 ^ 31 := by decide +kernel
theorem lq_arr4 {s : State} {args : Array Value} {ty : FieldType} (h : (Cond.arrayClass ty).before args s = true) (hty : ∀ C, ty ≠ .object C) : ∃ cA, ArrOfT s cA ty ∧ va_RA s cA ty := by
  obtain ⟨c, k, comp, h1, h2, h3⟩ := Cond.arrayClass_spec h
  refine ⟨c, fun n z => ⟨fun k' h => (by cases h), k, h2, comp, h3⟩, ?_⟩
  cases ty <;> first | exact h1 | exact absurd rfl (hty _)
theorem lq_arrO {s : State} {args : Array Value} {C : String} (h : (Cond.arrayOver (.object C)).before args s = true) : ∃ cA, ArrOfT s cA (.object C) ∧ va_RA s cA (.object C) := by
  obtain ⟨comp, c, k, h1, h2, h3, h4, h5⟩ := Cond.arrayOver_spec h
  exact ⟨c, fun n z => ⟨fun k' h => (by cases h), k, h3, comp, h4⟩, k, comp, h3, h4, h1, h5⟩
theorem lq_arrA {s : State} {args : Array Value} (h : (Cond.arrayOver (.array .int)).before args s = true) : ∃ cA, ArrOfT s cA (.array .int) ∧ va_RA s cA (.array .int) := by
  obtain ⟨comp, c, k, h1, h2, h3, h4, h5⟩ := arrayOverA_spec h
  exact ⟨c, fun n z => ⟨fun k' h => (by cases h), k, h3, comp, h4⟩, h5⟩
theorem lq_w : (Cond.arrayClass (ao_et 0) ∈ lw_tbl ∧ Cond.arrayClass (ao_et 1) ∈ lw_tbl ∧ Cond.arrayClass (ao_et 2) ∈ lw_tbl ∧ Cond.arrayClass (ao_et 3) ∈ lw_tbl) ∧ Cond.arrayOver (.object RX7) ∈ lw_tbl ∧ Cond.arrayOver (.object RX3) ∈ lw_tbl ∧ Cond.arrayOver (.array .int) ∈ lw_tbl := by decide +kernel
theorem lq_inst : ∀ ci, ci < 13 → ∀ q, vwCl[ci]? = some q → Cond.instantiable q.1 q.2.2 ∈ lw_tbl := by
  intro ci hc q hq
  rcases (show ci = 0 ∨ ci = 1 ∨ ci = 2 ∨ ci = 3 ∨ ci = 4 ∨ ci = 5 ∨ ci = 6 ∨ ci = 7 ∨ ci = 8 ∨ ci = 9 ∨ ci = 10 ∨ ci = 11 ∨ ci = 12 by omega) with rfl | rfl | rfl | rfl | rfl | rfl | rfl | rfl | rfl | rfl | rfl | rfl | rfl <;> cases hq <;> decide +kernel
theorem lq_st : (Cond.laysStatic "java/lang/Throwable" "UNASSIGNED_STACK" "[Ljava/lang/StackTraceElement;" ∈ lw_tbl ∧ Cond.laysStatic "java/lang/Throwable" "SUPPRESSED_SENTINEL" "Ljava/util/List;" ∈ lw_tbl ∧ Cond.initialized "java/lang/Throwable" ∈ lw_tbl) ∧ (Cond.laysStatic "java/lang/String" "COMPACT_STRINGS" "Z" ∈ lw_tbl ∧ Cond.initialized "java/lang/String" ∈ lw_tbl) ∧ Cond.laysStatic "jdk/internal/util/Preconditions" "SIOOBE_FORMATTER" "Ljava/util/function/BiFunction;" ∈ lw_tbl ∧ Cond.initialized "jdk/internal/util/Preconditions" ∈ lw_tbl := by decide +kernel
theorem lq_sn : (Cond.isRef (.static "java/lang/Throwable" "UNASSIGNED_STACK" "[Ljava/lang/StackTraceElement;") ∈ lq_N ∧ Cond.isRef (.static "java/lang/Throwable" "SUPPRESSED_SENTINEL" "Ljava/util/List;") ∈ lq_N) ∧ Cond.eq (.static "java/lang/String" "COMPACT_STRINGS" "Z") (.int 1) ∈ lq_N ∧ Cond.isRef (.static "jdk/internal/util/Preconditions" "SIOOBE_FORMATTER" "Ljava/util/function/BiFunction;") ∈ lq_N := by decide +kernel
theorem lq_nc : ∀ q ∈ ao_nc, Cond.not (.castable q.1 q.2) ∈ lq_N := by decide +kernel
theorem lq_txt : ∀ i, i < 13 → ∀ q, ao_txt[i]? = some q → Cond.stringRef q.1 q.2.1 q.2.2 ∈ lw_tbl := by
  intro i hi q hq
  rcases (show i = 0 ∨ i = 1 ∨ i = 2 ∨ i = 3 ∨ i = 4 ∨ i = 5 ∨ i = 6 ∨ i = 7 ∨ i = 8 ∨ i = 9 ∨ i = 10 ∨ i = 11 ∨ i = 12 by omega) with rfl | rfl | rfl | rfl | rfl | rfl | rfl | rfl | rfl | rfl | rfl | rfl | rfl <;> cases hq <;> decide +kernel
theorem lq_sref {s : State} {args : Array Value} {own tx : String} {k : Nat} (h : (Cond.stringRef own k tx).before args s = true) : ∃ a, (Term.string own k).eval args s none [] s = some (.ref a) := by
  have hcur : ∃ cur, s.vm.findClass own = some cur := by
    have h1 := h
    simp only [Cond.before, Cond.holds, Cond.value] at h1
    cases hc : s.vm.findClass own with
    | none => simp [hc] at h1
    | some cur => exact ⟨cur, rfl⟩
  obtain ⟨cur, hcur⟩ := hcur
  obtain ⟨_, _, _, a, -, -, -, -, -, h9⟩ := Cond.stringRef_spec hcur h
  exact ⟨a, h9⟩
theorem lq_len {args : Array Value} {s : State} {t u : Term} {o n d : String} (h : t.eval args s none [] s = u.eval args s none [] s) : (Term.length (.field t o n d)).eval args s none [] s = (Term.length (.field u o n d)).eval args s none [] s := by
  simp only [Term.eval, h]
theorem lq_elm {args : Array Value} {s : State} {t u v : Term} {o n d : String} (h : t.eval args s none [] s = u.eval args s none [] s) : (Term.elem (.field t o n d) v).eval args s none [] s = (Term.elem (.field u o n d) v).eval args s none [] s := by
  simp only [Term.eval, h]
theorem lq_ofNat {a b : Nat} (ha : a < 2 ^ 31) (hb : b < 2 ^ 31) (h : Int32.ofNat a = Int32.ofNat b) : a = b := by
  have e := congrArg Int32.toInt h
  rw [Int32.toInt_ofNat_of_lt ha, Int32.toInt_ofNat_of_lt hb] at e
  exact Int.ofNat.inj e
set_option maxHeartbeats 4000000 in
theorem lq_known {s : State} {b : Nat} (l : Launch) (hst : l.stackTraces = false) (hts : ∀ w ∈ lw_tbl, w.before #[Value.ref b] s = true) (hgv : (Jvm.Cond.and given_1 narrow_1).before #[Value.ref b] s = true) : ∃ Γ : ao_C, Γ.1 = l ∧ Γ.2.2.2 = s.heap.size ∧ ao_K Γ s := by
  have hn : ∀ c ∈ lq_N, c.before #[Value.ref b] s = true := flat_of_before _ hgv
  have hG : ∀ w ∈ ao_G, w.before #[Value.ref b] s = true := fun w hw => hts w (List.mem_filter.mp hw).1
  -- the classes
  have hc : ∀ ci : Nat, ∃ r : ClassId × (Nat → Nat), ∀ q : vw_C, vwCl[ci]? = some q → u_Kn s q.1 q.2.1 q.2.2 r.1 r.2 := by
    intro ci
    cases hq : vwCl[ci]? with
    | none => exact ⟨(0, fun _ => 0), fun q h => nomatch h⟩
    | some q =>
      have hci : ci < 13 := by
        have := (List.getElem?_eq_some_iff.mp hq).1
        simpa [vwCl] using this
      obtain ⟨cC, iS, h⟩ := u_known hG (ao_ck hq).1 (hts _ (lq_inst ci hci q hq))
      exact ⟨(cC, iS), fun q' h' => by cases h'; exact h⟩
  obtain ⟨dC, hdC⟩ := Classical.axiomOfChoice hc
  -- the arrays
  have ha : ∀ k : Nat, ∃ cA : ClassId, k < 7 → ArrOfT s cA (ao_et k) ∧ va_RA s cA (ao_et k) := by
    intro k
    by_cases hk : k < 7
    · rcases (show k = 0 ∨ k = 1 ∨ k = 2 ∨ k = 3 ∨ k = 4 ∨ k = 5 ∨ k = 6 by omega) with rfl | rfl | rfl | rfl | rfl | rfl | rfl
      · obtain ⟨c, h⟩ := lq_arr4 (hts _ lq_w.1.1) (fun C h => nomatch h); exact ⟨c, fun _ => h⟩
      · obtain ⟨c, h⟩ := lq_arr4 (hts _ lq_w.1.2.1) (fun C h => nomatch h); exact ⟨c, fun _ => h⟩
      · obtain ⟨c, h⟩ := lq_arr4 (hts _ lq_w.1.2.2.1) (fun C h => nomatch h); exact ⟨c, fun _ => h⟩
      · obtain ⟨c, h⟩ := lq_arr4 (hts _ lq_w.1.2.2.2) (fun C h => nomatch h); exact ⟨c, fun _ => h⟩
      · obtain ⟨c, h⟩ := lq_arrO (hts _ lq_w.2.1); exact ⟨c, fun _ => h⟩
      · obtain ⟨c, h⟩ := lq_arrO (hts _ lq_w.2.2.1); exact ⟨c, fun _ => h⟩
      · obtain ⟨c, h⟩ := lq_arrA (hts _ lq_w.2.2.2); exact ⟨c, fun _ => h⟩
    · exact ⟨0, fun h => absurd h hk⟩
  obtain ⟨cA, hcA⟩ := Classical.axiomOfChoice ha
  -- the texts
  have hAf : ∀ a : Nat, a < s.heap.size → ¬ (fun q : Nat => s.heap.size ≤ q) a := fun a h => Nat.not_le.mpr h
  have hev : ∀ i, i < 13 → ∃ a, (lq_tm i).eval #[Value.ref b] s none [] s = some (.ref a) := by
    intro i hi
    have hq : ∃ q, ao_txt[i]? = some q := ⟨ao_txt[i]'(by simpa [ao_txt] using hi), List.getElem?_eq_getElem _⟩
    obtain ⟨q, hq⟩ := hq
    have h := lq_sref (hts _ (lq_txt i hi q hq))
    unfold lq_tm
    rw [hq]
    exact h
  have hne : ∀ i j : Nat, i < 13 → j < 13 → i ≠ j → (Cond.not (Cond.eq (lq_tm i) (lq_tm j))).before #[Value.ref b] s = true ∨ (Cond.not (Cond.eq (lq_tm j) (lq_tm i))).before #[Value.ref b] s = true := by
    intro i j hi hj hij
    obtain ⟨a, h1⟩ := hev i hi
    obtain ⟨a', h2⟩ := hev j hj
    have hd : a ≠ a' := by
      intro e
      subst e
      have he : (lq_tm i).eval #[Value.ref b] s none [] s = (lq_tm j).eval #[Value.ref b] s none [] s := h1.trans h2.symm
      have e1 := va_eqt (hn _ (lq_n4 i hi))
      have e2 := va_eqt (hn _ (lq_n4 j hj))
      rw [lq_len he, e2] at e1
      have e3 : ao_len.getD j 0 = ao_len.getD i 0 := lq_ofNat (lq_n7 j hj) (lq_n7 i hi) (by injection e1 with e; injection e)
      rcases lq_n6 i hi j hj hij with h | ⟨k, hk, h⟩
      · exact h e3.symm
      · have g1 := va_eqt (hn _ (lq_n5 i hi k hk))
        have g2 := va_eqt (hn _ (lq_n5 j hj k (by omega)))
        rw [lq_elm he, g2] at g1
        exact h (by injection g1 with e; injection e with e; exact e.symm)
    left
    simp [Cond.before, Cond.holds, Cond.value, h1, h2, hd]
  obtain ⟨adK, adV, hS, hadK⟩ := vk_Sof (args := #[Value.ref b]) (s := s) (N := 13) (tm := lq_tm) (len := ao_len) (byt := ao_byt) (A := fun q : Nat => s.heap.size ≤ q) lq_n7 (fun i hi => hn _ (lq_n1 i hi)) (fun i hi => hn _ (lq_n2 i hi)) (fun i hi => hn _ (lq_n3 i hi)) (fun i hi => hn _ (lq_n4 i hi)) (fun i hi j hj => hn _ (lq_n5 i hi j hj)) hne hAf
  refine ⟨(l, (fun ci => (dC ci).1, fun ci => (dC ci).2), (fun k => if k < 7 then cA k else if k < 200 then adK (k - 100) else adV (k - 200)), s.heap.size), rfl, rfl, ?_, hst, ?_, ?_, ?_, ⟨?_, ?_⟩, ?_⟩
  · refine ⟨fun ci q hq => hdC ci q hq, fun k q hq => ?_⟩
    have hk : k < 7 := by
      have := (List.getElem?_eq_some_iff.mp hq).1
      simpa [ao_tys] using this
    have hq' : q = (cA k, ao_et k) := by
      simp [ao_tys, hk] at hq
      exact hq.symm
    rw [hq']
    exact hcA k hk
  · exact vx_Zqof (hts _ lq_st.1.1) (hts _ lq_st.1.2.2) (hn _ lq_sn.1.1) hAf
  · exact vx_Zqof (hts _ lq_st.1.2.1) (hts _ lq_st.1.2.2) (hn _ lq_sn.1.2) hAf
  · intro own k tx h
    obtain ⟨a, ha⟩ := lq_sref (hts _ h)
    exact ⟨a, vk_R.of (hts _ h) ha⟩
  · have eK : ∀ i, i < 13 → (if 100 + i < 7 then cA (100 + i) else if 100 + i < 200 then adK (100 + i - 100) else adV (100 + i - 200)) = adK i := fun i hi => by
      rw [if_neg (by omega), if_pos (by omega), show 100 + i - 100 = i by omega]
    have eV : ∀ i, i < 13 → (if 200 + i < 7 then cA (200 + i) else if 200 + i < 200 then adK (200 + i - 100) else adV (200 + i - 200)) = adV i := fun i hi => by
      rw [if_neg (by omega), if_neg (by omega), show 200 + i - 200 = i by omega]
    refine ⟨fun i hi => ?_, fun i j hi hj he => ?_⟩
    · show va_O "java/lang/String" (if 100 + i < 7 then cA (100 + i) else if 100 + i < 200 then adK (100 + i - 100) else adV (100 + i - 200)) _ _ _ ∧ va_OF _ _ _ _ (if 100 + i < 7 then cA (100 + i) else if 100 + i < 200 then adK (100 + i - 100) else adV (100 + i - 200)) _ _ _ ∧ va_OF _ _ _ (.ref (if 200 + i < 7 then cA (200 + i) else if 200 + i < 200 then adK (200 + i - 100) else adV (200 + i - 200))) (if 100 + i < 7 then cA (100 + i) else if 100 + i < 200 then adK (100 + i - 100) else adV (100 + i - 200)) _ _ _ ∧ va_T _ (if 200 + i < 7 then cA (200 + i) else if 200 + i < 200 then adK (200 + i - 100) else adV (200 + i - 200)) _ _ _ _ _
      rw [eK i hi, eV i hi]
      exact hS.1 i hi
    · have he' : (if 100 + i < 7 then cA (100 + i) else if 100 + i < 200 then adK (100 + i - 100) else adV (100 + i - 200)) = (if 100 + j < 7 then cA (100 + j) else if 100 + j < 200 then adK (100 + j - 100) else adV (100 + j - 200)) := he
      rw [eK i hi, eK j hj] at he'
      exact hS.2 i j hi hj he'
  · intro i q hq
    have hi : i < 13 := by
      have := (List.getElem?_eq_some_iff.mp hq).1
      simpa [ao_txt] using this
    have h1 := hadK i hi
    have h2 : (Term.string q.1 q.2.1).eval #[Value.ref b] s none [] s = some (.ref (adK i)) := by
      unfold lq_tm at h1
      rw [hq] at h1
      exact h1
    show vk_R q.1 q.2.1 q.2.2 (if 100 + i < 7 then cA (100 + i) else if 100 + i < 200 then adK (100 + i - 100) else adV (100 + i - 200)) s
    rw [if_neg (by omega), if_pos (by omega), show 100 + i - 100 = i by omega]
    exact vk_R.of (hts _ (lq_txt i hi q hq)) h2
  · refine ⟨fun x h => hts _ h, fun C T h => hts _ h, fun a i x g h => hts _ h, fun q hq => va_Nc.of (hn _ (lq_nc q hq)), ⟨va_AO.of (hts _ lq_w.2.1), va_AO.of (hts _ lq_w.2.2.1), hts _ lq_w.2.2.2⟩, ?_, ?_⟩
    · exact va_Zof (hts _ lq_st.2.1.1) (hts _ lq_st.2.1.2) (va_eqt (hn _ lq_sn.2.1)) hAf
    · exact va_Zqof (hts _ lq_st.2.2.1) (hts _ lq_st.2.2.2) (hn _ lq_sn.2.2) hAf
/-- what holds at the law's entry -/
def lq_At (p : Program) (s : State) (m : MethodId) (meth : Method) (c : Code) (b L : Nat) (xs : Nat → Int32) : Prop := lw_At p s m meth c b L xs ∧ meth.name = "law" ∧ c.exceptionTable.toList = []
set_option maxHeartbeats 4000000 in
theorem lq_start (hP : lq_Pure) {p : Program} {e : Env} {s : State} {m : MethodId} {below : List Frame} {meth : Method} {c : Code} (l : Launch) (hst : l.stackTraces = false) {b L : Nat} {xs : Nat → Int32} (hL : L ≤ 3072) (C1 : lq_At p s m meth c b L xs) : W p l e room_1 s m #[Value.ref b] below meth c s.heap [] 0 0 (lw_Z below #[Value.ref b] s) (entryFrame m ([Value.ref b] : List Value).toArray 7) := by
  obtain ⟨⟨hx, hb, hr, hml, hown, hts, hX, hbl, hlocks, hgv⟩, hname, htab⟩ := C1
  obtain ⟨Γ, rfl, hbase, hK⟩ := lq_known l hst hts hgv
  obtain ⟨n, y, h, hy, h1, h2⟩ := hP L xs hL
  have hW := (wL_law (Γ := Γ) (bS := b) (L := L) (xs := xs) 1001 rfl n).1 lq_M0 lq_H0 y h hy
  have hl := lv_entry [Value.ref b] (n := 7) (Nat.le_of_ble_eq_true rfl)
  rw [lg_entry_eq]
  generalize hls : (lg_sl [Value.ref b] ++ List.replicate (7 - (lg_sl [Value.ref b]).length) Slot.unset).toArray = ls at hl ⊢
  have hRp : ao_Rp Γ (lq_M0, lq_H0) s.heap := by
    refine ⟨by rw [hbase]; exact Nat.le_refl _, fun i => ⟨fun k hk he => ?_, fun ci q hq he => ?_⟩, fun k hk => ?_⟩
    · have : 99 = k := he
      omega
    · have h9 : 99 = 10 + ci := he
      have : ci = 89 := by omega
      subst this
      simp [vwCl] at hq
    · have : (0 : Nat) = k := Option.some.inj hk
      rw [hbase]
      omega
  have hlo : ao_lo ls uL_law.2.2.1 [some (.ref b), none, none, none, none, none, none] := by
    refine ⟨hl.1, hl.2.1, fun i v hi => ?_⟩
    have hi0 : i = 0 := by
      match i, hi with
      | 0, _ => rfl
      | 1, h => simp at h
      | 2, h => simp at h
      | 3, h => simp at h
      | 4, h => simp at h
      | 5, h => simp at h
      | 6, h => simp at h
      | j + 7, h => simp at h
    subst hi0
    have hv : v = .ref b := by simpa using hi.symm
    subst hv
    refine ⟨?_, rfl⟩
    rw [← hls]
    rfl
  have key := hW p e s m #[Value.ref b] below meth c s.heap [] 0 0 ls ⟨hx, hb, hml, hr, hlocks, hname, hown, fun w hw => hts w (List.mem_filter.mp hw).1, htab, hK⟩ hRp va_S.rf (by
    show 0 + ao_dc lq_H0 y.2.2 ≤ 601024
    unfold ao_dc
    omega) (by
    show 0 + ao_ds lq_H0 y.2.2 ≤ 7293034
    unfold ao_ds
    omega) hlo
  intro T hT X
  obtain ⟨t, a1, b1⟩ := key T hT X
  exact ⟨t, a1, b1 ⟨hX, hbase.symm, rfl, hbl⟩⟩
