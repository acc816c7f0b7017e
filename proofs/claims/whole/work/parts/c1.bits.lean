set_option linter.unusedSimpArgs false
set_option linter.unusedVariables false
/-! ===== how many bits, in the machine's own way ===== -/
def un (x : Int32) : Nat := x.toUInt32.toNat
theorem un_lt (x : Int32) : un x < 4294967296 := UInt32.toNat_lt x.toUInt32
theorem un_and (x y : Int32) : un (x &&& y) = un x &&& un y := UInt32.toNat_and x.toUInt32 y.toUInt32
theorem un_add {x y : Int32} (h : un x + un y < 4294967296) : un (x + y) = un x + un y := by
  have e : un (x + y) = (un x + un y) % 4294967296 := UInt32.toNat_add x.toUInt32 y.toUInt32
  rw [e, Nat.mod_eq_of_lt h]
theorem un_sub {x y : Int32} (h : un y ≤ un x) : un (x - y) = un x - un y := by
  have e : un (x - y) = (4294967296 - un y + un x) % 4294967296 := UInt32.toNat_sub x.toUInt32 y.toUInt32
  have h1 := un_lt x
  have h2 := un_lt y
  omega
theorem un_shr (x : Int32) (b : UInt32) (k : Nat) (hk : b.toNat % 32 = k) : un (x.toUInt32 >>> b).toInt32 = un x / 2 ^ k := by
  have e : un (x.toUInt32 >>> b).toInt32 = un x >>> (b.toNat % 32) := UInt32.toNat_shiftRight x.toUInt32 b
  rw [e, hk, Nat.shiftRight_eq_div_pow]
theorem un_n {k : Nat} (h : k < 4294967296) : un (nI k) = k := by
  show (BitVec.ofNat 32 k).toNat = k
  rw [BitVec.toNat_ofNat]
  exact Nat.mod_eq_of_lt h
theorem un_inj {x y : Int32} (h : un x = un y) : x = y := congrArg Int32.ofUInt32 (UInt32.toNat_inj.mp h)
theorem and_b {a b c d : Nat} (ha : a < 256) (hc : c < 256) : (a + 256 * b) &&& (c + 256 * d) = (a &&& c) + 256 * (b &&& d) := by
  have h1 := Nat.and_mod_two_pow (a := a + 256 * b) (b := c + 256 * d) (n := 8)
  have h2 := Nat.and_div_two_pow (a := a + 256 * b) (b := c + 256 * d) (n := 8)
  rw [show (2 : Nat) ^ 8 = 256 from rfl] at h1 h2
  rw [show (a + 256 * b) % 256 = a by omega, show (c + 256 * d) % 256 = c by omega] at h1
  rw [show (a + 256 * b) / 256 = b by omega, show (c + 256 * d) / 256 = d by omega] at h2
  omega
def bq1 (u : Nat) : Nat := u - ((u / 2) &&& 85)
def bq2 (e : Nat) : Nat := (e &&& 51) + ((e / 4) &&& 51)
def bq3 (g : Nat) : Nat := (g + g / 16) % 16
theorem bs1 : ∀ u, u < 256 → ∀ b, b < 2 → (u / 2 + 128 * b) &&& 85 = (u / 2) &&& 85 := by decide +kernel
theorem bs2 : ∀ u, u < 256 → ∀ b, b < 4 → (u / 4 + 64 * b) &&& 51 = (u / 4) &&& 51 := by decide +kernel
theorem bs3 : ∀ u, u < 256 → bq1 u < 256 ∧ ((u / 2) &&& 85) ≤ u ∧ bq2 (bq1 u) ≤ 68 ∧ bq2 (bq1 u) % 16 ≤ 4 ∧ bq3 (bq2 (bq1 u)) ≤ 8 ∧ bq3 (bq2 (bq1 u)) = (List.range 8).countP (fun i => u.testBit i) := by decide +kernel
theorem bq2_le (e : Nat) : (e &&& 51) ≤ 51 ∧ ((e / 4) &&& 51) ≤ 51 := ⟨Nat.and_le_right, Nat.and_le_right⟩
theorem and_15 (x : Nat) : x &&& 15 = x % 16 := Nat.and_two_pow_sub_one_eq_mod x 4
theorem and_63 (x : Nat) : x &&& 63 = x % 64 := Nat.and_two_pow_sub_one_eq_mod x 6
theorem bc_key {x v1 v2 v3 v4 v5 : Int32} {a0 a1 a2 a3 : Nat} (h0 : a0 < 256) (h1 : a1 < 256) (h2 : a2 < 256) (h3 : a3 < 256) (e : un x = a0 + 256 * (a1 + 256 * (a2 + 256 * a3)))
    (q1 : v1 = x - (((x.toUInt32 >>> ((1 : Int32).toUInt32 &&& Int32.toUInt32 31)).toInt32) &&& (1431655765 : Int32)))
    (q2 : v2 = (v1 &&& (858993459 : Int32)) + (((v1.toUInt32 >>> ((2 : Int32).toUInt32 &&& Int32.toUInt32 31)).toInt32) &&& (858993459 : Int32)))
    (q3 : v3 = (v2 + ((v2.toUInt32 >>> ((4 : Int32).toUInt32 &&& Int32.toUInt32 31)).toInt32)) &&& (252645135 : Int32))
    (q4 : v4 = v3 + ((v3.toUInt32 >>> ((8 : Int32).toUInt32 &&& Int32.toUInt32 31)).toInt32))
    (q5 : v5 = v4 + ((v4.toUInt32 >>> ((16 : Int32).toUInt32 &&& Int32.toUInt32 31)).toInt32)) :
    (v5 &&& (63 : Int32)) = nI (bq3 (bq2 (bq1 a0)) + bq3 (bq2 (bq1 a1)) + bq3 (bq2 (bq1 a2)) + bq3 (bq2 (bq1 a3))) := by
  obtain ⟨r0, l0, m0, n0, o0, -⟩ := bs3 a0 h0
  obtain ⟨r1, l1, m1, n1, o1, -⟩ := bs3 a1 h1
  obtain ⟨r2, l2, m2, n2, o2, -⟩ := bs3 a2 h2
  obtain ⟨r3, l3, m3, n3, o3, -⟩ := bs3 a3 h3
  have e1 : un v1 = bq1 a0 + 256 * (bq1 a1 + 256 * (bq1 a2 + 256 * bq1 a3)) := by
    have k : un (((x.toUInt32 >>> ((1 : Int32).toUInt32 &&& Int32.toUInt32 31)).toInt32) &&& (1431655765 : Int32)) = ((a0 / 2) &&& 85) + 256 * (((a1 / 2) &&& 85) + 256 * (((a2 / 2) &&& 85) + 256 * ((a3 / 2) &&& 85))) := by
      rw [un_and, un_shr _ _ 1 (by decide +kernel), show un (1431655765 : Int32) = 85 + 256 * (85 + 256 * (85 + 256 * 85)) by decide +kernel, e,
        show (a0 + 256 * (a1 + 256 * (a2 + 256 * a3))) / 2 ^ 1 = (a0 / 2 + 128 * (a1 % 2)) + 256 * ((a1 / 2 + 128 * (a2 % 2)) + 256 * ((a2 / 2 + 128 * (a3 % 2)) + 256 * (a3 / 2))) by omega,
        and_b (by omega) (by omega), and_b (by omega) (by omega), and_b (by omega) (by omega), bs1 a0 h0 _ (by omega), bs1 a1 h1 _ (by omega), bs1 a2 h2 _ (by omega)]
    rw [q1, un_sub (by rw [k, e]; omega), k, e]
    unfold bq1
    omega
  generalize bq1 a0 = b0 at *
  generalize bq1 a1 = b1 at *
  generalize bq1 a2 = b2 at *
  generalize bq1 a3 = b3 at *
  have e2 : un v2 = bq2 b0 + 256 * (bq2 b1 + 256 * (bq2 b2 + 256 * bq2 b3)) := by
    have k : un (v1 &&& (858993459 : Int32)) = (b0 &&& 51) + 256 * ((b1 &&& 51) + 256 * ((b2 &&& 51) + 256 * (b3 &&& 51))) := by
      rw [un_and, show un (858993459 : Int32) = 51 + 256 * (51 + 256 * (51 + 256 * 51)) by decide +kernel, e1, and_b (by omega) (by omega), and_b (by omega) (by omega), and_b (by omega) (by omega)]
    have k' : un (((v1.toUInt32 >>> ((2 : Int32).toUInt32 &&& Int32.toUInt32 31)).toInt32) &&& (858993459 : Int32)) = ((b0 / 4) &&& 51) + 256 * (((b1 / 4) &&& 51) + 256 * (((b2 / 4) &&& 51) + 256 * ((b3 / 4) &&& 51))) := by
      rw [un_and, un_shr _ _ 2 (by decide +kernel), show un (858993459 : Int32) = 51 + 256 * (51 + 256 * (51 + 256 * 51)) by decide +kernel, e1,
        show (b0 + 256 * (b1 + 256 * (b2 + 256 * b3))) / 2 ^ 2 = (b0 / 4 + 64 * (b1 % 4)) + 256 * ((b1 / 4 + 64 * (b2 % 4)) + 256 * ((b2 / 4 + 64 * (b3 % 4)) + 256 * (b3 / 4))) by omega,
        and_b (by omega) (by omega), and_b (by omega) (by omega), and_b (by omega) (by omega), bs2 b0 r0 _ (by omega), bs2 b1 r1 _ (by omega), bs2 b2 r2 _ (by omega)]
    have y0 := bq2_le b0
    have y1 := bq2_le b1
    have y2 := bq2_le b2
    have y3 := bq2_le b3
    rw [q2, un_add (by rw [k, k']; omega), k, k']
    unfold bq2
    omega
  generalize bq2 b0 = g0 at *
  generalize bq2 b1 = g1 at *
  generalize bq2 b2 = g2 at *
  generalize bq2 b3 = g3 at *
  have e3 : un v3 = bq3 g0 + 256 * (bq3 g1 + 256 * (bq3 g2 + 256 * bq3 g3)) := by
    have k : un (v2 + ((v2.toUInt32 >>> ((4 : Int32).toUInt32 &&& Int32.toUInt32 31)).toInt32)) = (g0 + g0 / 16 + 16 * (g1 % 16)) + 256 * ((g1 + g1 / 16 + 16 * (g2 % 16)) + 256 * ((g2 + g2 / 16 + 16 * (g3 % 16)) + 256 * (g3 + g3 / 16))) := by
      have j : un ((v2.toUInt32 >>> ((4 : Int32).toUInt32 &&& Int32.toUInt32 31)).toInt32) = (g0 / 16 + 16 * (g1 % 16)) + 256 * ((g1 / 16 + 16 * (g2 % 16)) + 256 * ((g2 / 16 + 16 * (g3 % 16)) + 256 * (g3 / 16))) := by
        rw [un_shr _ _ 4 (by decide +kernel), e2]
        omega
      rw [un_add (by rw [j, e2]; omega), j, e2]
      omega
    rw [q3, un_and, k, show un (252645135 : Int32) = 15 + 256 * (15 + 256 * (15 + 256 * 15)) by decide +kernel, and_b (by omega) (by omega), and_b (by omega) (by omega), and_b (by omega) (by omega), and_15, and_15, and_15, and_15]
    unfold bq3
    omega
  generalize bq3 g0 = d0 at *
  generalize bq3 g1 = d1 at *
  generalize bq3 g2 = d2 at *
  generalize bq3 g3 = d3 at *
  have e4 : un v4 = (d0 + d1) + 256 * ((d1 + d2) + 256 * ((d2 + d3) + 256 * d3)) := by
    have j : un ((v3.toUInt32 >>> ((8 : Int32).toUInt32 &&& Int32.toUInt32 31)).toInt32) = d1 + 256 * (d2 + 256 * d3) := by
      rw [un_shr _ _ 8 (by decide +kernel), e3]
      omega
    rw [q4, un_add (by rw [j, e3]; omega), j, e3]
    omega
  have e5 : un v5 = (d0 + d1 + d2 + d3) + 256 * ((d1 + d2 + d3) + 256 * ((d2 + d3) + 256 * d3)) := by
    have j : un ((v4.toUInt32 >>> ((16 : Int32).toUInt32 &&& Int32.toUInt32 31)).toInt32) = (d2 + d3) + 256 * d3 := by
      rw [un_shr _ _ 16 (by decide +kernel), e4]
      omega
    rw [q5, un_add (by rw [j, e4]; omega), j, e4]
    omega
  apply un_inj
  rw [un_and, show un (63 : Int32) = 63 by decide +kernel, and_63, e5, un_n (by omega)]
  omega
theorem pc_b (x s : Nat) : (List.range' s 8).countP (fun p => x.testBit p) = (List.range 8).countP (fun i => (x / 2 ^ s % 256).testBit i) := by
  rw [List.range'_eq_map_range, List.countP_map]
  refine List.countP_congr (fun i hi => ?_)
  have hi' : i < 8 := by simpa using hi
  show x.testBit (s + i) = true ↔ (x / 2 ^ s % 2 ^ 8).testBit i = true
  rw [Nat.testBit_mod_two_pow, Nat.testBit_div_two_pow, decide_eq_true hi', Bool.true_and, Nat.add_comm s i]
theorem bitCount_ok (x : Int32) (hx : ∀ p, 26 ≤ p → bt x p = false) {M : ao_M} {ρ : ao_H} : gJ6_bitCount_0f7a4 x M ρ = some (nI (popc x), M) := by
  have hl := un_lt x
  have e32 : (List.range' 0 32).countP (fun p => (un x).testBit p) = popc x := by
    have e26 : (List.range' 26 6).countP (fun p => (un x).testBit p) = 0 := List.countP_eq_zero.mpr (fun p hp => by
      rw [List.mem_range'_1] at hp
      have : (un x).testBit p = false := hx p (by omega)
      simp [this])
    rw [show List.range' 0 32 = List.range' 0 26 ++ List.range' 26 6 from rfl, List.countP_append, e26]
    unfold popc
    rw [List.range_eq_range']
    rfl
  have e8 : (List.range' 0 32).countP (fun p => (un x).testBit p) = (List.range 8).countP (fun i => (un x % 256).testBit i) + (List.range 8).countP (fun i => (un x / 256 % 256).testBit i) + (List.range 8).countP (fun i => (un x / 65536 % 256).testBit i) + (List.range 8).countP (fun i => (un x / 16777216).testBit i) := by
    have z0 := pc_b (un x) 0
    have z1 := pc_b (un x) 8
    have z2 := pc_b (un x) 16
    have z3 := pc_b (un x) 24
    rw [show (2 : Nat) ^ 0 = 1 from rfl, Nat.div_one] at z0
    rw [show (2 : Nat) ^ 8 = 256 from rfl] at z1
    rw [show (2 : Nat) ^ 16 = 65536 from rfl] at z2
    rw [show (2 : Nat) ^ 24 = 16777216 from rfl, show un x / 16777216 % 256 = un x / 16777216 by omega] at z3
    rw [show List.range' 0 32 = List.range' 0 8 ++ (List.range' 8 8 ++ (List.range' 16 8 ++ List.range' 24 8)) from rfl, List.countP_append, List.countP_append, List.countP_append, z0, z1, z2, z3]
    omega
  have w0 : un x % 256 < 256 := by omega
  have w1 : un x / 256 % 256 < 256 := by omega
  have w2 : un x / 65536 % 256 < 256 := by omega
  have w3 : un x / 16777216 < 256 := by omega
  have key := bc_key (x := x) w0 w1 w2 w3 (by omega) rfl rfl rfl rfl rfl
  rw [(bs3 _ w0).2.2.2.2.2, (bs3 _ w1).2.2.2.2.2, (bs3 _ w2).2.2.2.2.2, (bs3 _ w3).2.2.2.2.2, ← e8, e32] at key
  unfold gJ6_bitCount_0f7a4
  simp only [ao_let]
  rw [key]
