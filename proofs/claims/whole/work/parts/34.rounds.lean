/-! ROUNDS -/
def chainUp (n : Nat) : Nat := if n ≤ 16 then 16 else if n ≤ 32 then 32 else if n ≤ 64 then 64 else if n ≤ 128 then 128 else if n ≤ 256 then 256 else if n ≤ 512 then 512 else if n ≤ 1024 then 1024 else if n ≤ 2048 then 2048 else 2400
def capAt (c n : Nat) : Nat := if n ≤ c then c else chainUp n
theorem chainUp_ok {n : Nat} (h : n ≤ 2400) : isCap (chainUp n) ∧ n ≤ chainUp n := by
  unfold chainUp isCap
  repeat' split
  all_goals omega
theorem capAt_ok {c n : Nat} (hc : isCap c) (h : n ≤ 2400) : isCap (capAt c n) ∧ n ≤ capAt c n ∧ c ≤ capAt c n := by
  unfold capAt
  split
  · exact ⟨hc, by omega, by omega⟩
  · obtain ⟨h1, h2⟩ := chainUp_ok h
    exact ⟨h1, h2, by omega⟩
theorem chain_next {c : Nat} (hc : isCap c) (h : c < 2400) : chainUp (c + 1) = gN c := by
  rcases hc with rfl | rfl | rfl | rfl | rfl | rfl | rfl | rfl | rfl
  all_goals first | rfl | omega
theorem chain_mono {n m : Nat} (h : n ≤ m) : chainUp n ≤ chainUp m := by
  unfold chainUp
  repeat' split
  all_goals omega
theorem chain_self {c : Nat} (hc : isCap c) : chainUp c = c := by
  rcases hc with rfl | rfl | rfl | rfl | rfl | rfl | rfl | rfl | rfl <;> rfl
theorem capAt_mono {c n m : Nat} (hc : isCap c) (hm : m ≤ 2400) (h : n ≤ m) : capAt c n ≤ capAt c m := by
  unfold capAt
  by_cases h1 : n ≤ c
  · rw [if_pos h1]
    split
    · omega
    · have := (chainUp_ok hm).2
      omega
  · rw [if_neg h1, if_neg (by omega)]
    exact chain_mono h
/-- capacities reached one after the other -/
theorem capAt_trans {c n m : Nat} (hc : isCap c) (hm : m ≤ 2400) (h : n ≤ m) : capAt (capAt c n) m = capAt c m := by
  by_cases h1 : n ≤ c
  · have : capAt c n = c := by unfold capAt; rw [if_pos h1]
    rw [this]
  · have e1 : capAt c n = chainUp n := by unfold capAt; rw [if_neg h1]
    have e2 : capAt c m = chainUp m := by unfold capAt; rw [if_neg (by omega)]
    rw [e1, e2]
    unfold capAt
    split
    · rename_i h2
      have h3 := chain_mono h2
      rw [chain_self (chainUp_ok (by omega)).1] at h3
      have h4 := chain_mono h
      omega
    · rfl
theorem capN_at {c n : Nat} (hc : isCap c) (h1 : n ≤ c) (h2 : n < 2400) : capN c n = capAt c (n + 1) := by
  unfold capN capAt
  by_cases h : n < c
  · rw [if_pos h, if_pos (by omega)]
  · have e : n = c := by omega
    rw [if_neg h, if_neg (by omega), e, chain_next hc (by omega)]
/-- does a pool that could help have this label wanted already -/
def anyW (T : Nat → Nat → Nat) (M F : List Th) (b : Nat) : Bool := (List.range (T 0 0)).any (fun s => couB T M b s && inB F s (T 9 b))
def wntL (T : Nat → Nat → Nat) (M F : List Th) (r b : Nat) : List Th := if anyW T M F b = true then [] else match wst T M b (T 0 0) with
  | none => []
  | some s => [(s, T 9 b, r, b)]
def stp (T : Nat → Nat → Nat) (M : List Th) (r : Nat) (F : List Th) (b : Nat) : List Th := if dirB T (cnt M) b = true ∨ ¬ bst T M b (T 0 0) = none then F else F ++ wntL T M F r b
def rnd (T : Nat → Nat → Nat) (M : List Th) (r : Nat) : Nat → List Th
  | 0 => []
  | b + 1 => stp T M r (rnd T M r b) b
theorem wst_no {T : Nat → Nat → Nat} {M : List Th} {b k : Nat} (h : ¬ couB T M b k = true) : wst T M b (k + 1) = wst T M b k := by
  unfold wst
  simp only [amin, if_neg h]
theorem wst_first {T : Nat → Nat → Nat} {M : List Th} {b k : Nat} (h : couB T M b k = true) (h3 : wst T M b k = none) : wst T M b (k + 1) = some k := by
  unfold wst at h3 ⊢
  simp only [amin, if_pos h, h3]
theorem wst_less {T : Nat → Nat → Nat} {M : List Th} {b k u : Nat} (h : couB T M b k = true) (h3 : wst T M b k = some u) (h4 : dst (braA T (cnt M) b) (pE T (cnt M) k) < dst (braA T (cnt M) b) (pE T (cnt M) u)) : wst T M b (k + 1) = some k := by
  unfold wst at h3 ⊢
  simp only [amin, if_pos h, h3, if_pos h4]
theorem wst_keep {T : Nat → Nat → Nat} {M : List Th} {b k u : Nat} (h : couB T M b k = true) (h3 : wst T M b k = some u) (h4 : ¬ dst (braA T (cnt M) b) (pE T (cnt M) k) < dst (braA T (cnt M) b) (pE T (cnt M) u)) : wst T M b (k + 1) = wst T M b k := by
  unfold wst at h3 ⊢
  simp only [amin, if_pos h, h3, if_neg h4]
theorem wst_lt {T : Nat → Nat → Nat} {M : List Th} {b : Nat} : ∀ k u, wst T M b k = some u → u < k ∧ couB T M b u = true := by
  intro k
  induction k with
  | zero =>
    intro u h
    exact absurd h (by simp [wst, amin])
  | succ k ih =>
    intro u h
    by_cases hc : couB T M b k = true
    · cases h3 : wst T M b k with
      | none =>
        rw [wst_first hc h3] at h
        cases h
        exact ⟨by omega, hc⟩
      | some v =>
        by_cases h4 : dst (braA T (cnt M) b) (pE T (cnt M) k) < dst (braA T (cnt M) b) (pE T (cnt M) v)
        · rw [wst_less hc h3 h4] at h
          cases h
          exact ⟨by omega, hc⟩
        · rw [wst_keep hc h3 h4] at h
          have := ih u h
          exact ⟨by omega, this.2⟩
    · rw [wst_no hc] at h
      have := ih u h
      exact ⟨by omega, this.2⟩
theorem anyW_yes {T : Nat → Nat → Nat} {M F : List Th} {b k : Nat} (hk : k < T 0 0) (h1 : couB T M b k = true) (h2 : inB F k (T 9 b) = true) : anyW T M F b = true := by
  unfold anyW
  rw [List.any_eq_true]
  exact ⟨k, List.mem_range.mpr hk, by rw [h1, h2]; rfl⟩
theorem anyW_no {T : Nat → Nat → Nat} {M F : List Th} {b : Nat} (h : ∀ j, j < T 0 0 → couB T M b j = true → ¬ inB F j (T 9 b) = true) : ¬ anyW T M F b = true := by
  unfold anyW
  rw [List.any_eq_true]
  rintro ⟨j, hj, h2⟩
  rw [Bool.and_eq_true] at h2
  exact h j (List.mem_range.mp hj) h2.1 h2.2
theorem cou_inM {T : Nat → Nat → Nat} {M : List Th} {b s : Nat} (h : couB T M b s = true) : inB M s (T 9 b) = false ∧ ¬ T 3 s = 0 := by
  unfold couB at h
  simp only [Bool.and_eq_true] at h
  obtain ⟨⟨⟨h1, h2⟩, _⟩, _⟩ := h
  refine ⟨by simpa using h2, by simpa using h1⟩
theorem isw {M F : List Th} {s l : Nat} (hlen : (M ++ F).length < 2 ^ 31) (h : inB M s l = false) : ¬ oI (fnd (M ++ F) s l) < nI M.length ↔ inB F s l = true := by
  rw [fnd_app, fnd_none.mpr h, Option.none_or]
  rw [List.length_append] at hlen
  cases hf : fnd F s l with
  | none =>
    rw [fnd_none.mp hf]
    simp only [Option.map_none, oI]
    constructor
    · intro h9
      refine absurd ?_ h9
      rw [Int32.lt_iff_toInt_lt, nI_toInt (by omega)]
      have h7 : (-1 : Int32).toInt = -1 := rfl
      omega
    · intro h9
      cases h9
  | some t =>
    have ht := fnd_lt hf
    simp only [Option.map_some, oI]
    constructor
    · intro _
      exact inB_fnd.mpr ⟨t, hf⟩
    · intro _
      rw [nI_ltI (by omega) (by omega)]
      omega
theorem inB_app (M F : List Th) (s l : Nat) : inB (M ++ F) s l = (inB M s l || inB F s l) := by
  unfold inB
  exact List.any_append
