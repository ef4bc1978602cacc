/-! PURE: what is encoded -/
theorem zN_and {z : Int} {k : Nat} (hk : k ≤ 62) : zN z &&& (zN (2 ^ k) - 1) = zN (z % 2 ^ k) := by
  rw [one_z, zN_sub]
  apply Int64.toBitVec_inj.mp
  rw [Int64.toBitVec_and]
  apply BitVec.eq_of_toNat_eq
  rw [BitVec.toNat_and]
  show (BitVec.ofInt 64 z).toNat &&& (BitVec.ofInt 64 (2 ^ k - 1)).toNat = (BitVec.ofInt 64 (z % 2 ^ k)).toNat
  rw [BitVec.toNat_ofInt, BitVec.toNat_ofInt, BitVec.toNat_ofInt]
  have p1 := pow_b hk
  have p2 := pow_p k
  have e1 : (((2 : Int) ^ k - 1) % ((2 ^ 64 : Nat) : Int)).toNat = 2 ^ k - 1 := by
    rw [Int.emod_eq_of_lt (by omega) (by omega)]
    have : ((2 ^ k : Nat) : Int) = (2 : Int) ^ k := by norm_cast
    omega
  rw [e1, Nat.and_two_pow_sub_one_eq_mod]
  have hz := Int.emod_nonneg z (show ((2 ^ 64 : Nat) : Int) ≠ 0 by omega)
  have hdv : ((2 : Int) ^ k) ∣ ((2 ^ 64 : Nat) : Int) := by
    have : (2 ^ 64 : Nat) = 2 ^ k * 2 ^ (64 - k) := by rw [← Nat.pow_add]; congr 1; omega
    rw [this]
    exact ⟨(2 : Int) ^ (64 - k), by norm_cast⟩
  have e2 : z % ((2 ^ 64 : Nat) : Int) % (2 ^ k) = z % 2 ^ k := Int.emod_emod_of_dvd z hdv
  have g1 := Int.emod_nonneg z (show ((2 : Int) ^ k) ≠ 0 by omega)
  have g2 := Int.emod_lt_of_pos z (show (0 : Int) < 2 ^ k by omega)
  rw [Int.emod_eq_of_lt (a := z % 2 ^ k) (by omega) (by omega), ← e2]
  generalize z % ((2 ^ 64 : Nat) : Int) = w at *
  obtain ⟨n, rfl⟩ := Int.eq_ofNat_of_zero_le hz
  have : (2 : Int) ^ k = ((2 ^ k : Nat) : Int) := by norm_cast
  rw [this]
  norm_cast
def cde (sh bi a b : Nat) : Nat := ((((b : Int) - a) / 2 ^ sh) % 2 ^ bi).toNat
theorem cde_z (sh bi a b : Nat) : ((cde sh bi a b : Nat) : Int) = (((b : Int) - a) / 2 ^ sh) % 2 ^ bi := by
  unfold cde
  have p2 := pow_p bi
  have := Int.emod_nonneg (((b : Int) - a) / 2 ^ sh) (show ((2 : Int) ^ bi) ≠ 0 by omega)
  omega
theorem cde_lt {sh bi a b : Nat} (hb : bi ≤ 30) : cde sh bi a b < 2 ^ 30 := by
  have h := cde_z sh bi a b
  have p1 := pow_b hb
  have p2 := pow_p bi
  have := Int.emod_lt_of_pos (((b : Int) - a) / 2 ^ sh) (show (0 : Int) < 2 ^ bi by omega)
  omega
theorem enc_class {sh bi a b : Nat} (hsh : sh ≤ 3) (hb2 : bi ≤ 30) (ha : a < 2 ^ 40) (hb : b < 2 ^ 40) {way steps m1 m2 an : Int64} {r : Int32} (e1 : way = lN b - lN a) (e2 : steps = way >>> ((nI sh).toInt64 &&& 63)) (e3 : m1 = 1 <<< ((nI bi).toInt64 &&& 63)) (e4 : m2 = m1 - 1) (e5 : an = steps &&& m2) (e6 : r = an.toInt32) : r = nI (cde sh bi a b) := by
  have p1 := pow_b hsh
  rw [lN_z, lN_z, zN_sub] at e1
  subst e1
  rw [zN_shr (by omega) (by omega) (by omega)] at e2
  subst e2
  rw [one_z, zN_shl (by omega), Int.one_mul] at e3
  subst e3
  subst e4
  rw [zN_and (by omega), ← cde_z, ← lN_z] at e5
  subst e5
  rw [e6, lN_i]
theorem fol_class {sh bi a b : Nat} (hsh : sh ≤ 3) (hb1 : 1 ≤ bi) (hb2 : bi ≤ 30) (ha : a < 2 ^ 40) (hb : b < 2 ^ 40) (hr : rch sh bi a b = true) {half steps sl r : Int64} (e3 : half = 1 <<< ((nI (bi - 1)).toInt64 &&& 63)) (hs : (lN (cde sh bi a b) < half ∧ steps = lN (cde sh bi a b)) ∨ (¬ lN (cde sh bi a b) < half ∧ steps = lN (cde sh bi a b) - 2 * half)) (e5 : sl = steps <<< ((nI sh).toInt64 &&& 63)) (e6 : r = lN a + sl) : r = lN b := by
  have p1 := pow_b hsh
  have p2 := pow_p sh
  have p3 := pow_b (show bi - 1 ≤ 29 by omega)
  have p4 := pow_p (bi - 1)
  have p5 : (2 : Int) ^ bi = 2 ^ (bi - 1) * 2 := by rw [← Int.pow_succ]; congr 1; omega
  have hc := cde_z sh bi a b
  have hcl := cde_lt (sh := sh) (a := a) (b := b) hb2
  unfold rch at hr
  rw [decide_eq_true_iff] at hr
  obtain ⟨g1, g2, g3⟩ := hr
  rw [one_z, zN_shl (by omega), Int.one_mul] at e3
  subst e3
  have h1 := Int.ediv_mul_add_emod ((b : Int) - a) (2 ^ sh)
  rw [g1, Int.add_zero] at h1
  generalize hq : ((b : Int) - a) / 2 ^ sh = q at *
  have hq1 : -2 ^ (bi - 1) ≤ q := by
    by_cases h6 : -2 ^ (bi - 1) ≤ q
    · exact h6
    · have : q * 2 ^ sh < (-2 ^ (bi - 1)) * 2 ^ sh := Int.mul_lt_mul_of_pos_right (by omega) (by omega)
      rw [Int.neg_mul] at this
      omega
  have hq2 : q < 2 ^ (bi - 1) := by
    by_cases h6 : q < 2 ^ (bi - 1)
    · exact h6
    · have : (2 ^ (bi - 1) : Int) * 2 ^ sh ≤ q * 2 ^ sh := Int.mul_le_mul_of_nonneg_right (by omega) (by omega)
      omega
  have hst : steps = zN q := by
    rw [lN_z, hc] at hs
    rw [p5] at hs
    by_cases h0 : 0 ≤ q
    · rw [Int.emod_eq_of_lt h0 (by omega)] at hs
      rw [zN_lt (by omega) (by omega) (by omega) (by omega)] at hs
      rcases hs with ⟨_, h⟩ | ⟨h, _⟩
      · exact h
      · omega
    · have e : q % (2 ^ (bi - 1) * 2) = q + 2 ^ (bi - 1) * 2 := by
        rw [← Int.add_emod_right, Int.emod_eq_of_lt (by omega) (by omega)]
      rw [e] at hs
      rw [zN_lt (by omega) (by omega) (by omega) (by omega)] at hs
      rcases hs with ⟨h, _⟩ | ⟨_, h⟩
      · omega
      · rw [h, show (2 : Int64) = zN 2 from rfl, zN_mul, zN_sub]
        congr 1
        omega
  subst hst
  rw [zN_shl (by omega)] at e5
  subst e5
  rw [e6, lN_z, zN_add, lN_z]
  congr 1
  omega
/-! PURE: the reference's arithmetic -/
theorem upTo_model {a k : Nat} (ha : a < 2 ^ 40) (hk : k ≤ 12) {m s1 s2 q r : Int64} (e1 : m = 1 <<< ((nI k).toInt64 &&& 63)) (e2 : s1 = lN a + m) (e3 : s2 = s1 - 1) (e4 : q = s2 / m) (e5 : r = q * m) : r = lN (up a k) := by
  have h1 : 2 ^ k ≤ 2 ^ 12 := Nat.pow_le_pow_right (by decide) hk
  have h2 : 0 < 2 ^ k := Nat.two_pow_pos k
  rw [one_z, zN_shl (by omega), Int.one_mul, show (2 : Int) ^ k = ((2 ^ k : Nat) : Int) by norm_cast, ← lN_z] at e1
  subst e1
  rw [lN_add] at e2
  subst e2
  rw [lN_sub1 (by omega)] at e3
  subst e3
  rw [pk_lDiv (by omega) (by omega) (by omega)] at e4
  subst e4
  rw [e5, lN_mul]
  rfl
theorem m_ne0 {k : Nat} (hk : k ≤ 12) {m : Int64} (e1 : m = 1 <<< ((nI k).toInt64 &&& 63)) : ¬ m = 0 := by
  have p1 := pow_b hk
  have p2 := pow_p k
  rw [one_z, zN_shl (by omega), Int.one_mul] at e1
  rw [e1, zero_z, zN_eq (by omega) (by omega) (by omega) (by omega)]
  omega
theorem zN_tdiv {z : Int} {n : Int} (h1 : -2 ^ 62 ≤ z) (h2 : z < 2 ^ 62) (h3 : 0 < n) (h4 : n < 2 ^ 62) : zN z / zN n = zN (z.tdiv n) := by
  apply Int64.toInt_inj.mp
  rw [Int64.toInt_div_of_ne_right _ _ (by
    intro h
    have := congrArg Int64.toInt h
    rw [zN_toInt (by omega) (by omega)] at this
    have h5 : (-1 : Int64).toInt = -1 := rfl
    omega), zN_toInt (by omega) (by omega), zN_toInt (by omega) (by omega)]
  have hb : (z.tdiv n).natAbs ≤ z.natAbs := by
    rw [Int.natAbs_tdiv]
    exact Nat.div_le_self _ _
  rw [zN_toInt (by omega) (by omega)]
theorem tdiv_dvd {z n : Int} (hn : 0 < n) (h : z % n = 0) : z.tdiv n = z / n := by
  obtain ⟨c, rfl⟩ := Int.dvd_of_emod_eq_zero h
  rw [Int.mul_tdiv_cancel_left _ (by omega), Int.mul_ediv_cancel_left _ (by omega)]
theorem rch_model {sh bi a b : Nat} (hsh : sh ≤ 3) (hb1 : 1 ≤ bi) (hb2 : bi ≤ 30) (ha : a < 2 ^ 40) (hb : b < 2 ^ 40) {d st h1 half rem : Int64} (e1 : d = lN b - lN a) (e0 : st = lN (2 ^ sh)) (e2 : h1 = 1 <<< ((nI (bi - 1)).toInt64 &&& 63)) (e3 : half = h1 * st) (e4 : rem = d - d / st * st) : (rem = 0 ∧ ¬ d < -half ∧ ¬ half - st < d) ↔ rch sh bi a b = true := by
  have p1 := pow_b hsh
  have p2 := pow_p sh
  have p3 := pow_b (show bi - 1 ≤ 29 by omega)
  have p4 := pow_p (bi - 1)
  have p6 : (2 : Int) ^ (bi - 1) * 2 ^ sh ≤ 2 ^ 29 * 2 ^ 3 := Int.mul_le_mul p3 p1 (by omega) (by omega)
  have p7 : (1 : Int) * 2 ^ sh ≤ 2 ^ (bi - 1) * 2 ^ sh := Int.mul_le_mul_of_nonneg_right p4 (by omega)
  rw [lN_z, lN_z, zN_sub] at e1
  subst e1
  rw [lN_z, show ((2 ^ sh : Nat) : Int) = (2 : Int) ^ sh by norm_cast] at e0
  subst e0
  rw [one_z, zN_shl (by omega), Int.one_mul] at e2
  subst e2
  rw [zN_mul] at e3
  subst e3
  unfold rch
  rw [decide_eq_true_iff]
  generalize hd : (b : Int) - a = d at *
  have hd1 : -2 ^ 40 ≤ d := by omega
  have hd2 : d < 2 ^ 40 := by omega
  have hf0 : ((2 : Int) ^ (bi - 1) * 2 ^ sh) % 2 ^ sh = 0 := Int.mul_emod_left _ _
  generalize (2 : Int) ^ (bi - 1) * 2 ^ sh = hf at *
  rw [zN_tdiv (by omega) (by omega) (by omega) (by omega), zN_mul, zN_sub] at e4
  have hrem : d - d.tdiv (2 ^ sh) * 2 ^ sh = d.tmod (2 ^ sh) := by
    have := Int.tdiv_mul_add_tmod d (2 ^ sh)
    omega
  rw [hrem] at e4
  subst e4
  have hb3 : (d.tmod (2 ^ sh)).natAbs ≤ d.natAbs := by
    rw [Int.natAbs_tmod]
    exact Nat.mod_le _ _
  have hiff : d.tmod (2 ^ sh) = 0 ↔ d % 2 ^ sh = 0 := by
    rw [← Int.dvd_iff_tmod_eq_zero, ← Int.dvd_iff_emod_eq_zero]
  rw [zero_z, zN_eq (by omega) (by omega) (by omega) (by omega), zN_neg, zN_lt (by omega) (by omega) (by omega) (by omega), zN_sub, zN_lt (by omega) (by omega) (by omega) (by omega), hiff]
  constructor
  · rintro ⟨g1, g2, g3⟩
    exact ⟨g1, by omega, by omega⟩
  · rintro ⟨g1, g2, g3⟩
    refine ⟨g1, by omega, ?_⟩
    intro g4
    obtain ⟨u, rfl⟩ := Int.dvd_of_emod_eq_zero g1
    obtain ⟨v, rfl⟩ := Int.dvd_of_emod_eq_zero hf0
    have : u < v := Int.lt_of_mul_lt_mul_left g3 (by omega)
    have h8 : 2 ^ sh * (u + 1) ≤ 2 ^ sh * v := Int.mul_le_mul_of_nonneg_left (by omega) (by omega)
    rw [Int.mul_add] at h8
    omega
theorem way_model {sh bi a b : Nat} (hsh : sh ≤ 3) (hb2 : bi ≤ 30) (ha : a < 2 ^ 40) (hb : b < 2 ^ 40) (hr : ((b : Int) - a) % 2 ^ sh = 0) {d st q m1 m2 an : Int64} {r : Int32} (e1 : d = lN b - lN a) (e0 : st = lN (2 ^ sh)) (e2 : q = d / st) (e3 : m1 = 1 <<< ((nI bi).toInt64 &&& 63)) (e4 : m2 = m1 - 1) (e5 : an = q &&& m2) (e6 : r = an.toInt32) : r = nI (cde sh bi a b) := by
  have p1 := pow_b hsh
  have p2 := pow_p sh
  rw [lN_z, lN_z, zN_sub] at e1
  subst e1
  rw [lN_z, show ((2 ^ sh : Nat) : Int) = (2 : Int) ^ sh by norm_cast] at e0
  subst e0
  rw [zN_tdiv (by omega) (by omega) (by omega) (by omega), tdiv_dvd (by omega) hr] at e2
  subst e2
  rw [one_z, zN_shl (by omega), Int.one_mul] at e3
  subst e3
  subst e4
  rw [zN_and (by omega), ← cde_z, ← lN_z] at e5
  subst e5
  rw [e6, lN_i]
theorem goes_model {sh bi a b : Nat} (hsh : sh ≤ 3) (hb1 : 1 ≤ bi) (hb2 : bi ≤ 30) (ha : a < 2 ^ 40) (hb : b < 2 ^ 40) (hr : rch sh bi a b = true) {st s1 an m1 v2 mu r : Int64} (e0 : st = lN (2 ^ sh)) (e1 : s1 = lN (cde sh bi a b) >>> ((nI (bi - 1)).toInt64 &&& 63)) (e2 : an = s1 &&& 1) (e3 : m1 = 1 <<< ((nI bi).toInt64 &&& 63)) (hs : (¬ an = 1 ∧ v2 = lN (cde sh bi a b)) ∨ (an = 1 ∧ v2 = lN (cde sh bi a b) - m1)) (e5 : mu = v2 * st) (e6 : r = lN a + mu) : r = lN b := by
  have p1 := pow_b hsh
  have p2 := pow_p sh
  have p3 := pow_b (show bi - 1 ≤ 29 by omega)
  have p4 := pow_p (bi - 1)
  have p5 : (2 : Int) ^ bi = 2 ^ (bi - 1) * 2 := by rw [← Int.pow_succ]; congr 1; omega
  have hc := cde_z sh bi a b
  have hcl := cde_lt (sh := sh) (a := a) (b := b) hb2
  unfold rch at hr
  rw [decide_eq_true_iff] at hr
  obtain ⟨g1, g2, g3⟩ := hr
  rw [lN_z, show ((2 ^ sh : Nat) : Int) = (2 : Int) ^ sh by norm_cast] at e0
  subst e0
  rw [one_z, zN_shl (by omega), Int.one_mul] at e3
  subst e3
  rw [lN_z, zN_shr (by omega) (by omega) (by omega)] at e1
  subst e1
  rw [show (1 : Int64) = zN (2 ^ 1) - 1 from rfl, zN_and (by omega)] at e2
  subst e2
  have h1 := Int.ediv_mul_add_emod ((b : Int) - a) (2 ^ sh)
  rw [g1, Int.add_zero] at h1
  generalize hq : ((b : Int) - a) / 2 ^ sh = q at *
  have hq1 : -2 ^ (bi - 1) ≤ q := by
    by_cases h6 : -2 ^ (bi - 1) ≤ q
    · exact h6
    · have : q * 2 ^ sh < (-2 ^ (bi - 1)) * 2 ^ sh := Int.mul_lt_mul_of_pos_right (by omega) (by omega)
      rw [Int.neg_mul] at this
      omega
  have hq2 : q < 2 ^ (bi - 1) := by
    by_cases h6 : q < 2 ^ (bi - 1)
    · exact h6
    · have : (2 ^ (bi - 1) : Int) * 2 ^ sh ≤ q * 2 ^ sh := Int.mul_le_mul_of_nonneg_right (by omega) (by omega)
      omega
  have hst : v2 = zN q := by
    rw [lN_z, hc, p5, one_z] at hs
    by_cases h0 : 0 ≤ q
    · rw [Int.emod_eq_of_lt h0 (by omega), Int.ediv_eq_zero_of_lt h0 hq2] at hs
      rcases hs with ⟨_, h⟩ | ⟨h, _⟩
      · exact h
      · exact absurd h (by decide)
    · have e : q % (2 ^ (bi - 1) * 2) = q + 2 ^ (bi - 1) * 2 := by
        rw [← Int.add_emod_right, Int.emod_eq_of_lt (by omega) (by omega)]
      have e9 : (q + 2 ^ (bi - 1) * 2) / 2 ^ (bi - 1) = 1 := by
        rw [show q + 2 ^ (bi - 1) * 2 = (q + 2 ^ (bi - 1)) + 1 * 2 ^ (bi - 1) by omega, Int.add_mul_ediv_right _ _ (by omega), Int.ediv_eq_zero_of_lt (by omega) (by omega)]
        rfl
      rw [e, e9] at hs
      rcases hs with ⟨h, _⟩ | ⟨_, h⟩
      · exact absurd rfl h
      · rw [h, zN_sub]
        congr 1
        omega
  subst hst
  rw [zN_mul] at e5
  subst e5
  rw [e6, lN_z, zN_add, lN_z]
  congr 1
  omega
