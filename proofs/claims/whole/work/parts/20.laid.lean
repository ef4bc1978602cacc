/-! WHAT IS LAID OUT: routes, codes, what is where -/
def rtB (T : Nat → Nat → Nat) (M : List Th) (b : Nat) : Option Nat := if dirB T (cnt M) b = true then none else bst T M b (T 0 0)
def wyB (T : Nat → Nat → Nat) (M : List Th) (b : Nat) : Nat := if dirB T (cnt M) b = true then 0 else match bst T M b (T 0 0) with
  | none => 2
  | some _ => 1
def cdB (T : Nat → Nat → Nat) (M : List Th) (b : Nat) : Option Nat := if dirB T (cnt M) b = true then some (cde (T 10 (T 8 b)) (T 11 (T 8 b)) (braA T (cnt M) b) (labA T (cnt M) (T 9 b))) else match bst T M b (T 0 0) with
  | none => none
  | some t => some (cde (T 10 (T 8 b)) (T 11 (T 8 b)) (braA T (cnt M) b) (plc T M t))
def cdT (T : Nat → Nat → Nat) (M : List Th) (t : Nat) : Option Nat := if rch (T 10 (T 0 7)) (T 11 (T 0 7)) (plc T M t) (labA T (cnt M) (thA M t).2.1) = true then some (cde (T 10 (T 0 7)) (T 11 (T 0 7)) (plc T M t) (labA T (cnt M) (thA M t).2.1)) else none
def us (T : Nat → Nat → Nat) (M : List Th) (t : Nat) : Nat → Nat
  | 0 => 0
  | b + 1 => us T M t b + if rtB T M b = some t then 1 else 0
def ix (n : Nat) (p : Int32) : Option Nat := if ¬ p < 0 ∧ ¬ nI n ≤ p then some p.toNatClampNeg else none
theorem ix_ok {n : Nat} (hn : n < 2 ^ 31) {p : Int32} (h : ¬ p < 0 ∧ ¬ nI n ≤ p) : ∃ b : Nat, p = nI b ∧ b < n := by
  obtain ⟨j, h1, h2⟩ := nI_of h.1
  subst h2
  have h3 := h.2
  rw [nI_leI (by omega) (by omega)] at h3
  exact ⟨j, rfl, by omega⟩
theorem ix_in {n b : Nat} (hn : n < 2 ^ 31) (h : b < n) : ix n (nI b) = some b := by
  unfold ix
  rw [if_pos ⟨nI_pos (by omega), by rw [nI_leI (by omega) (by omega)]; omega⟩, nI_clamp (by omega)]
theorem ix_no {n : Nat} {p : Int32} (h : ¬ (¬ p < 0 ∧ ¬ nI n ≤ p)) : ix n p = none := by
  unfold ix
  rw [if_neg h]
def fst (p : Nat → Bool) (n : Nat) : Option Nat := (List.range n).find? p
theorem fst_some {p : Nat → Bool} {n k : Nat} (hk : k < n) (h : p k = true) (hb : ∀ j, j < k → ¬ p j = true) : fst p n = some k := by
  unfold fst
  rw [List.find?_range_eq_some]
  exact ⟨h, List.mem_range.mpr hk, fun j hj => by have := hb j hj; simpa using this⟩
theorem fst_none {p : Nat → Bool} {n : Nat} (hb : ∀ j, j < n → ¬ p j = true) : fst p n = none := by
  unfold fst
  rw [List.find?_eq_none]
  intro j hj
  exact hb j (List.mem_range.mp hj)
def sumS (T : Nat → Nat → Nat) : Nat → Nat
  | 0 => 0
  | k + 1 => sumS T k + T 1 k
def iN (z : Int) : Int32 := Int32.ofInt z
theorem nI_iN (n : Nat) : nI n = iN n := Int32.ofInt_eq_ofNat.symm
theorem iN_sub (a b : Int) : iN a - iN b = iN (a - b) := (Int32.ofInt_sub a b).symm
theorem iN_mul (a b : Int) : iN a * iN b = iN (a * b) := (Int32.ofInt_mul a b).symm
def inS (T : Nat → Nat → Nat) (n : Nat → Nat) (x : Int64) (s : Nat) : Bool := decide (¬ x < lN (sA T n s) ∧ x < lN (sA T n s + T 1 s))
def inT (T : Nat → Nat → Nat) (M : List Th) (x : Int64) (t : Nat) : Bool := decide (¬ x < lN (plc T M t) ∧ x < lN (plc T M t + T 0 5))
def atB (T : Nat → Nat → Nat) (M : List Th) (x : Int64) : Int32 := if x < lN (T 0 4) ∨ ¬ x < lN (sAt T (cnt M) (T 0 0)) then -1 else match fst (inS T (cnt M) x) (T 0 0) with
  | some s => nI (1000 + s)
  | none => match fst (inT T M x) M.length with
    | some t => nI (2000 + t)
    | none => 0
def nuls (f : Nat → Nat) : Nat → Nat
  | 0 => 0
  | k + 1 => nuls f k + if f k = 0 then 1 else 0
theorem nuls_le (f : Nat → Nat) : ∀ k, nuls f k ≤ k := by
  intro k
  induction k with
  | zero => simp [nuls]
  | succ k ih =>
    simp only [nuls]
    split <;> omega
theorem us_le (T : Nat → Nat → Nat) (M : List Th) (t : Nat) : ∀ b, us T M t b ≤ b := by
  intro b
  induction b with
  | zero => simp [us]
  | succ b ih =>
    simp only [us]
    split <;> omega
/-- what the layout's cells hold of it, for those who ask -/
def LQ (I : Nat → Nat → Int32) (J : Nat → Nat → Int64) (T : Nat → Nat → Nat) (cap : Nat) (M : List Th) : Prop :=
  (I 38 0 = nI M.length ∧ M.length ≤ cap ∧ cap ≤ 2400 ∧ TW T M ∧ (0 < M.length → 0 < T 0 5)) ∧
  (∀ t, t < M.length → I 39 t = nI (thA M t).1 ∧ I 40 t = nI (thA M t).2.1 ∧ I 41 t = nI (thA M t).2.2.1 ∧ I 42 t = nI (thA M t).2.2.2 ∧ I 43 t = nI (us T M t (T 0 2)) ∧ I 44 t = nI (rk M t)) ∧
  (∀ t, t < M.length → J 45 t = lN (plc T M t)) ∧
  (∀ b, b < T 0 2 → I 48 b = nI (wyB T M b) ∧ I 49 b = oI (rtB T M b)) ∧
  (∀ s, s < T 0 0 → J 35 s = lN (sA T (cnt M) s) ∧ J 36 s = lN (pS T (cnt M) s) ∧ J 37 s = lN (pE T (cnt M) s)) ∧ J 34 3 = lN (sAt T (cnt M) (T 0 0))
theorem bst_help {T : Nat → Nat → Nat} {M : List Th} {b : Nat} : ∀ k t, bst T M b k = some t → helpB T M b t = true ∧ (thA M t).2.1 = T 9 b := by
  intro k
  induction k with
  | zero =>
    intro u h
    exact absurd h (by simp [bst, amin])
  | succ k ih =>
    intro u h
    cases hf : fnd M k (T 9 b) with
    | none =>
      rw [bst_none hf] at h
      exact ih u h
    | some t =>
      by_cases h2 : helpB T M b t = true
      · cases h3 : bst T M b k with
        | none =>
          rw [bst_first hf h2 h3] at h
          cases h
          exact ⟨h2, (fnd_at hf).2⟩
        | some v =>
          by_cases h4 : dst (braA T (cnt M) b) (plc T M t) < dst (braA T (cnt M) b) (plc T M v)
          · rw [bst_less hf h2 h3 h4] at h
            cases h
            exact ⟨h2, (fnd_at hf).2⟩
          · rw [bst_keep hf h2 h3 h4] at h
            exact ih u h
      · rw [bst_nohelp hf h2] at h
        exact ih u h
theorem help_split {T : Nat → Nat → Nat} {M : List Th} {b t : Nat} (h : helpB T M b t = true) : rch (T 10 (T 8 b)) (T 11 (T 8 b)) (braA T (cnt M) b) (plc T M t) = true ∧ rch (T 10 (T 0 7)) (T 11 (T 0 7)) (plc T M t) (labA T (cnt M) (thA M t).2.1) = true := by
  unfold helpB at h
  rw [Bool.and_eq_true] at h
  exact h
theorem sAt_mono {T : Nat → Nat → Nat} {n : Nat → Nat} (s : Nat) : sAt T n s ≤ sAt T n (s + 1) := by
  have h1 := up_ge (sAt T n s) (T 2 s)
  have h2 := up_ge (up (sAt T n s) (T 2 s) + T 1 s) (T 0 6)
  simp only [sAt]
  split <;> omega
theorem sAt_ge {T : Nat → Nat → Nat} {n : Nat → Nat} : ∀ s, T 0 4 ≤ sAt T n s := by
  intro s
  induction s with
  | zero => simp [sAt]
  | succ s ih =>
    have := sAt_mono (T := T) (n := n) s
    omega
