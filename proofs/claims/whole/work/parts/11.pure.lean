/-! PURE: numbers -/
theorem vp_in_cc {x : Int32} {n : Nat} (h0 : ¬ x < 0) (h1 : ¬ nI n ≤ x) (hn : n < 2 ^ 31) : vp_in x n := by
  rw [vp_in_iff]
  rw [Int32.lt_iff_toInt_lt] at h0
  rw [Int32.le_iff_toInt_le, nI_toInt hn] at h1
  have : (0 : Int32).toInt = 0 := rfl
  omega
theorem vp_in_le {x : Int32} {n N : Nat} (h0 : ¬ x < 0) (h1 : ¬ nI n ≤ x) (hn : n ≤ N) (hN : N < 2 ^ 31) : vp_in x N := by
  rw [vp_in_iff]
  rw [Int32.lt_iff_toInt_lt] at h0
  rw [Int32.le_iff_toInt_le, nI_toInt (by omega)] at h1
  have : (0 : Int32).toInt = 0 := rfl
  omega
/-- the least multiple of 2^k not below a -/
def up (a k : Nat) : Nat := (a + 2 ^ k - 1) / 2 ^ k * 2 ^ k
theorem up_ge (a k : Nat) : a ≤ up a k := by
  unfold up
  have h : 0 < 2 ^ k := Nat.two_pow_pos k
  have h1 := Nat.div_add_mod (a + 2 ^ k - 1) (2 ^ k)
  have h2 := Nat.mod_lt (a + 2 ^ k - 1) h
  rw [Nat.mul_comm] at h1
  omega
theorem up_lt (a k : Nat) : up a k < a + 2 ^ k := by
  unfold up
  have h : 0 < 2 ^ k := Nat.two_pow_pos k
  have h1 := Nat.div_mul_le_self (a + 2 ^ k - 1) (2 ^ k)
  omega
theorem up_le12 {a k : Nat} (hk : k ≤ 12) : up a k ≤ a + 4095 := by
  have h := up_lt a k
  have h2 : 2 ^ k ≤ 2 ^ 12 := Nat.pow_le_pow_right (by decide) hk
  omega
theorem up_le6 {a k : Nat} (hk : k ≤ 6) : up a k ≤ a + 63 := by
  have h := up_lt a k
  have h2 : 2 ^ k ≤ 2 ^ 6 := Nat.pow_le_pow_right (by decide) hk
  omega
theorem lN_bv (n : Nat) : (lN n).toBitVec = BitVec.ofNat 64 n := rfl
set_option maxRecDepth 20000 in
theorem neg_bits : ∀ k, k < 13 → ∀ i, i < 64 → (-(BitVec.ofNat 64 (2 ^ k))).getLsbD i = decide (k ≤ i) := by decide +kernel
theorem and_neg {n k : Nat} (hk : k ≤ 12) (hn : n < 2 ^ 63) : (lN n) &&& (-(lN (2 ^ k))) = lN (n / 2 ^ k * 2 ^ k) := by
  apply Int64.toBitVec_inj.mp
  rw [Int64.toBitVec_and, Int64.toBitVec_neg, lN_bv, lN_bv, lN_bv]
  apply BitVec.eq_of_getLsbD_eq
  intro i hi
  rw [BitVec.getLsbD_and, neg_bits k (by omega) i hi, BitVec.getLsbD_ofNat, BitVec.getLsbD_ofNat, ← Nat.shiftLeft_eq, Nat.testBit_shiftLeft, Nat.testBit_div_two_pow]
  by_cases h : k ≤ i
  · simp [h, hi]
  · simp [h]
theorem lN_sub1 {a : Nat} (h : 1 ≤ a) : lN a - 1 = lN (a - 1) := by
  rw [show (1 : Int64) = lN 1 from rfl]
  exact lN_sub h
theorem align_up {a k : Nat} (ha : a < 2 ^ 40) (hk : k ≤ 12) : (lN a + lN (2 ^ k) - 1) &&& (-(lN (2 ^ k))) = lN (up a k) := by
  have h1 : 2 ^ k ≤ 2 ^ 12 := Nat.pow_le_pow_right (by decide) hk
  have h2 : 0 < 2 ^ k := Nat.two_pow_pos k
  rw [lN_add, lN_sub1 (by omega), and_neg hk (by omega)]
  rfl
