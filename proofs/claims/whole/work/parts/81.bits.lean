set_option linter.unusedSimpArgs false
set_option linter.unusedVariables false
/-! ===== masks ===== -/
theorem n_31 : ∀ p, p < 26 → nI p &&& 31 = nI p := by decide
theorem b_sm : ∀ p, p < 26 → ((nI p).toBitVec.smod 32).toNat = p := by decide
theorem b_1 (y : BitVec 32) : (y &&& 1#32 = 0#32) ↔ y.getLsbD 0 = false := by
  constructor
  · intro e
    have := congrArg (fun z => z.getLsbD 0) e
    simpa using this
  · intro e
    apply BitVec.eq_of_getLsbD_eq
    intro i hi
    cases i with
    | zero => rw [BitVec.getLsbD_and, e]; simp
    | succ i => simp [BitVec.getLsbD_one]
theorem b_tst (m : Int32) (p : Nat) (h : p < 26) : ((m >>> (nI p &&& 31)) &&& 1 = 0) ↔ m.toBitVec.getLsbD p = false := by
  rw [n_31 p h, ← Int32.toBitVec_inj]
  simp only [Int32.toBitVec_and, Int32.toBitVec_shiftRight, Int32.toBitVec_zero, Int32.toBitVec_one]
  rw [b_1, BitVec.sshiftRight', b_sm p h, BitVec.getLsbD_sshiftRight]
  simp (disch := omega)
  omega
/-- the bit p of a mask -/
def bt (m : Int32) (p : Nat) : Bool := m.toBitVec.getLsbD p
theorem bt_z (m : Int32) {p : Nat} (h : p < 26) : (((m >>> (nI p &&& 31)) &&& 1) = 0) = (bt m p = false) := propext (b_tst m p h)
theorem bt_0 (p : Nat) : bt 0 p = false := by simp [bt]
theorem bt_or (m : Int32) {p q : Nat} (hp : p < 26) (hq : q < 26) : bt (m ||| ((1 : Int32) <<< (nI q &&& 31))) p = (bt m p || decide (p = q)) := by
  unfold bt
  rw [n_31 q hq]
  simp only [Int32.toBitVec_or, Int32.toBitVec_shiftLeft, Int32.toBitVec_one, BitVec.getLsbD_or]
  congr 1
  rw [BitVec.shiftLeft_eq', b_sm q hq, BitVec.getLsbD_shiftLeft]
  simp [BitVec.getLsbD_one]
  rw [Bool.eq_iff_iff]
  simp
  omega
theorem bt_all (m : Int32) (h : ∀ p, p < 26 → bt m p = false) (g : ∀ p, 26 ≤ p → bt m p = false) : m = 0 := by
  apply Int32.toBitVec_inj.mp
  apply BitVec.eq_of_getLsbD_eq
  intro i hi
  by_cases e : i < 26
  · exact (h i e).trans (by simp)
  · exact (g i (by omega)).trans (by simp)
theorem bt_orh (m : Int32) {p q : Nat} (hp : 26 ≤ p) (hq : q < 26) : bt (m ||| ((1 : Int32) <<< (nI q &&& 31))) p = bt m p := by
  unfold bt
  rw [n_31 q hq]
  simp only [Int32.toBitVec_or, Int32.toBitVec_shiftLeft, Int32.toBitVec_one, BitVec.getLsbD_or]
  rw [BitVec.shiftLeft_eq', b_sm q hq, BitVec.getLsbD_shiftLeft]
  simp [BitVec.getLsbD_one]
  omega
theorem nodup_le : ∀ (n : Nat) (l : List Nat), l.Nodup → (∀ x ∈ l, x < n) → l.length ≤ n := by
  intro n
  induction n with
  | zero =>
    intro l _ h
    cases l with
    | nil => simp
    | cons a l => exact absurd (h a (by simp)) (by omega)
  | succ n ih =>
    intro l hl h
    have h1 := ih (l.erase n) (hl.erase n) (fun x hx => by
      have h2 := (hl.mem_erase_iff).mp hx
      have := h x h2.2
      omega)
    have := List.length_erase (a := n) (l := l)
    split at this <;> omega
