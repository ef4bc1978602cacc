/-! PURE: longs as whole numbers -/
def zN (z : Int) : Int64 := Int64.ofInt z
theorem lN_z (n : Nat) : lN n = zN n := Int64.ofInt_eq_ofNat.symm
theorem zN_toInt {z : Int} (h1 : -2 ^ 63 ≤ z) (h2 : z < 2 ^ 63) : (zN z).toInt = z := Int64.toInt_ofInt_of_le h1 h2
theorem zN_add (a b : Int) : zN a + zN b = zN (a + b) := (Int64.ofInt_add a b).symm
theorem zN_sub (a b : Int) : zN a - zN b = zN (a - b) := (Int64.ofInt_sub a b).symm
theorem zN_mul (a b : Int) : zN a * zN b = zN (a * b) := (Int64.ofInt_mul a b).symm
theorem zN_neg (a : Int) : -zN a = zN (-a) := (Int64.ofInt_neg a).symm
theorem zN_lt {a b : Int} (h1 : -2 ^ 63 ≤ a) (h2 : a < 2 ^ 63) (h3 : -2 ^ 63 ≤ b) (h4 : b < 2 ^ 63) : zN a < zN b ↔ a < b := by
  rw [Int64.lt_iff_toInt_lt, zN_toInt h1 h2, zN_toInt h3 h4]
theorem zN_le {a b : Int} (h1 : -2 ^ 63 ≤ a) (h2 : a < 2 ^ 63) (h3 : -2 ^ 63 ≤ b) (h4 : b < 2 ^ 63) : zN a ≤ zN b ↔ a ≤ b := by
  rw [Int64.le_iff_toInt_le, zN_toInt h1 h2, zN_toInt h3 h4]
theorem zN_eq {a b : Int} (h1 : -2 ^ 63 ≤ a) (h2 : a < 2 ^ 63) (h3 : -2 ^ 63 ≤ b) (h4 : b < 2 ^ 63) : zN a = zN b ↔ a = b := by
  rw [← Int64.toInt_inj, zN_toInt h1 h2, zN_toInt h3 h4]
set_option maxRecDepth 20000 in
theorem sh63 : ∀ k, k < 64 → (((nI k).toInt64 &&& 63).toBitVec.smod 64).toNat = k := by decide +kernel
theorem zN_shr {z : Int} {k : Nat} (hk : k < 64) (h1 : -2 ^ 63 ≤ z) (h2 : z < 2 ^ 63) : zN z >>> ((nI k).toInt64 &&& 63) = zN (z / 2 ^ k) := by
  apply Int64.toInt_inj.mp
  show ((zN z).toBitVec.sshiftRight (((nI k).toInt64 &&& 63).toBitVec.smod 64).toNat).toInt = _
  rw [sh63 k hk, BitVec.toInt_sshiftRight]
  show (zN z).toInt >>> k = _
  have hp : (0 : Int) < 2 ^ k := Int.pow_pos (by decide)
  have hd1 := Int.ediv_mul_le z (b := 2 ^ k) (by omega)
  have hp1 : (1 : Int) ≤ 2 ^ k := hp
  rw [zN_toInt h1 h2, Int.shiftRight_eq_div_pow, zN_toInt]
  · rfl
  · by_cases hz : 0 ≤ z
    · have := Int.ediv_nonneg hz (by omega : (0 : Int) ≤ 2 ^ k)
      omega
    · have : z ≤ z / 2 ^ k := by
        apply Int.le_ediv_of_mul_le hp
        have : z * 2 ^ k ≤ z * 1 := Int.mul_le_mul_of_nonpos_left (by omega) hp1
        omega
      omega
  · by_cases hz : 0 ≤ z
    · have := Int.ediv_le_self (2 ^ k) hz
      omega
    · have := Int.ediv_neg_of_neg_of_pos (by omega : z < 0) hp
      omega
theorem zN_shl {z : Int} {k : Nat} (hk : k < 64) : zN z <<< ((nI k).toInt64 &&& 63) = zN (z * 2 ^ k) := by
  apply Int64.toBitVec_inj.mp
  show (zN z).toBitVec <<< (((nI k).toInt64 &&& 63).toBitVec.smod 64).toNat = _
  rw [sh63 k hk, BitVec.shiftLeft_eq_mul_twoPow]
  apply BitVec.eq_of_toInt_eq
  rw [BitVec.toInt_mul]
  show _ = (Int64.ofInt (z * 2 ^ k)).toInt
  rw [Int64.toInt_ofInt]
  show ((zN z).toInt * _).bmod _ = _
  unfold zN
  rw [Int64.toInt_ofInt]
  rw [Int.bmod_mul_bmod]
  have e : (BitVec.twoPow 64 k).toInt.bmod (2 ^ 64) = ((2 : Int) ^ k).bmod (2 ^ 64) := by
    have : ∀ k, k < 64 → (BitVec.twoPow 64 k).toInt.bmod (2 ^ 64) = ((2 : Int) ^ k).bmod (2 ^ 64) := by decide +kernel
    exact this k hk
  rw [← Int.mul_bmod_bmod, e, Int.mul_bmod_bmod]
theorem one_z : (1 : Int64) = zN 1 := rfl
theorem zero_z : (0 : Int64) = zN 0 := rfl
/-- a kind's reach: the way is a multiple of 2^sh, in bi bits -/
def rch (sh bi a b : Nat) : Bool := decide (((b : Int) - a) % (2 ^ sh : Int) = 0 ∧ -(2 ^ (bi - 1) * 2 ^ sh : Int) ≤ (b : Int) - a ∧ (b : Int) - a < (2 ^ (bi - 1) * 2 ^ sh : Int))
theorem pow_b {k n : Nat} (h : k ≤ n) : (2 : Int) ^ k ≤ 2 ^ n := by
  exact_mod_cast Nat.pow_le_pow_right (by decide : 0 < 2) h
theorem pow_p (k : Nat) : (1 : Int) ≤ 2 ^ k := by
  exact_mod_cast Nat.one_le_two_pow
theorem rch_class {sh bi a b : Nat} (hsh : sh ≤ 3) (hb1 : 1 ≤ bi) (hb2 : bi ≤ 30) (ha : a < 2 ^ 40) (hb : b < 2 ^ 40) {way steps half bk : Int64} (e1 : way = lN b - lN a) (e2 : steps = way >>> ((nI sh).toInt64 &&& 63)) (e3 : half = 1 <<< ((nI (bi - 1)).toInt64 &&& 63)) (e4 : bk = steps <<< ((nI sh).toInt64 &&& 63)) : (bk = way ∧ ¬ steps < -half ∧ ¬ half ≤ steps) ↔ rch sh bi a b = true := by
  have p1 := pow_b hsh
  have p2 := pow_p sh
  have p3 := pow_b (show bi - 1 ≤ 29 by omega)
  have p4 := pow_p (bi - 1)
  rw [lN_z, lN_z, zN_sub] at e1
  subst e1
  rw [zN_shr (by omega) (by omega) (by omega)] at e2
  subst e2
  rw [zN_shl (by omega)] at e4
  subst e4
  rw [one_z, zN_shl (by omega), Int.one_mul] at e3
  subst e3
  generalize hd : (b : Int) - a = d
  have hd1 : -2 ^ 40 ≤ d := by omega
  have hd2 : d < 2 ^ 40 := by omega
  have h1 := Int.ediv_mul_add_emod d (2 ^ sh)
  have h2 := Int.emod_nonneg d (show (2 ^ sh : Int) ≠ 0 by omega)
  have h3 := Int.emod_lt_of_pos d (show (0 : Int) < 2 ^ sh by omega)
  generalize hq : d / 2 ^ sh = q at *
  generalize hr : d % 2 ^ sh = r at *
  have hq1 : -2 ^ 41 ≤ q := by
    by_cases h : 0 ≤ q
    · omega
    · have : q * 2 ^ sh ≤ q * 1 := Int.mul_le_mul_of_nonpos_left (by omega) (by omega)
      have h5 : q * 2 ^ sh = d - r := by omega
      by_cases h6 : -2 ^ 41 ≤ q
      · exact h6
      · have : q * 2 ^ sh ≤ (-2 ^ 41) * 2 ^ sh := Int.mul_le_mul_of_nonneg_right (by omega) (by omega)
        have : (-2 ^ 41 : Int) * 2 ^ sh ≤ (-2 ^ 41) * 1 := Int.mul_le_mul_of_nonpos_left (by omega) (by omega)
        omega
  have hq2 : q < 2 ^ 41 := by
    by_cases h6 : q < 2 ^ 41
    · exact h6
    · have : (2 ^ 41 : Int) * 2 ^ sh ≤ q * 2 ^ sh := Int.mul_le_mul_of_nonneg_right (by omega) (by omega)
      have : (2 ^ 41 : Int) * 1 ≤ (2 ^ 41) * 2 ^ sh := Int.mul_le_mul_of_nonneg_left (by omega) (by omega)
      omega
  have hm : q * 2 ^ sh = d - r := by omega
  rw [zN_eq (by omega) (by omega) (by omega) (by omega), zN_neg, zN_lt (by omega) (by omega) (by omega) (by omega), zN_le (by omega) (by omega) (by omega) (by omega)]
  unfold rch
  rw [hd, hr, decide_eq_true_iff]
  have hneg : -((2 : Int) ^ (bi - 1) * 2 ^ sh) = (-2 ^ (bi - 1)) * 2 ^ sh := by rw [Int.neg_mul]
  constructor
  · rintro ⟨g1, g2, g3⟩
    refine ⟨by omega, ?_, ?_⟩
    · rw [hneg]
      have : (-2 ^ (bi - 1) : Int) * 2 ^ sh ≤ q * 2 ^ sh := Int.mul_le_mul_of_nonneg_right (by omega) (by omega)
      omega
    · have : q * 2 ^ sh < 2 ^ (bi - 1) * 2 ^ sh := Int.mul_lt_mul_of_pos_right (by omega) (by omega)
      omega
  · rintro ⟨g1, g2, g3⟩
    refine ⟨by omega, ?_, ?_⟩
    · intro g4
      have : q * 2 ^ sh < (-2 ^ (bi - 1) : Int) * 2 ^ sh := Int.mul_lt_mul_of_pos_right (by omega) (by omega)
      rw [hneg] at g2
      omega
    · intro g4
      have : (2 ^ (bi - 1) : Int) * 2 ^ sh ≤ q * 2 ^ sh := Int.mul_le_mul_of_nonneg_right (by omega) (by omega)
      omega
