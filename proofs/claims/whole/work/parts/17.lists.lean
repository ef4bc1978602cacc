/-! THUNKS as a list, in the order in which they were wanted: (its section, its label, the round, the branch that wanted it) -/
abbrev Th : Type := Nat × Nat × Nat × Nat
def thA (L : List Th) (t : Nat) : Th := L.getD t (0, 0, 0, 0)
def cnt (L : List Th) (s : Nat) : Nat := L.countP (fun x => x.1 == s)
def rk (L : List Th) (t : Nat) : Nat := cnt (L.take t) (thA L t).1
def isT (s l : Nat) (x : Th) : Bool := x.1 == s && x.2.1 == l
def inB (L : List Th) (s l : Nat) : Bool := L.any (isT s l)
def fnd (L : List Th) (s l : Nat) : Option Nat := L.findIdx? (isT s l)
def oI (o : Option Nat) : Int32 := match o with
  | none => -1
  | some t => nI t
/-- of the candidates the nearest one, of two the first -/
def amin (cand : Nat → Option Nat) (d : Nat → Nat) : Nat → Option Nat
  | 0 => none
  | k + 1 => match cand k with
    | none => amin cand d k
    | some t => match amin cand d k with
      | none => some t
      | some u => if d t < d u then some t else some u
def dst (x a : Nat) : Nat := if a < x then x - a else a - x
theorem oI_neg {o : Option Nat} (h : ∀ t, o = some t → t < 2 ^ 31) : oI o = -1 ↔ o = none := by
  cases o with
  | none => simp [oI]
  | some t =>
    simp only [oI]
    constructor
    · intro h1
      have h2 := congrArg Int32.toInt h1
      rw [nI_toInt (h t rfl)] at h2
      have h3 : (-1 : Int32).toInt = -1 := rfl
      omega
    · intro h1
      cases h1
theorem abs_dst {a b : Nat} (ha : a < 2 ^ 40) (hb : b < 2 ^ 40) {x : Int64} (e : x = lN a - lN b) : (if 0 < x then x else -x) = lN (dst b a) := by
  rw [lN_z, lN_z, zN_sub] at e
  subst e
  rw [zero_z, zN_neg]
  unfold dst
  by_cases h : a < b
  · rw [if_neg (by rw [zN_lt (by omega) (by omega) (by omega) (by omega)]; omega), if_pos h, lN_z]
    congr 1
    omega
  · by_cases h2 : a = b
    · subst h2
      rw [if_neg (by rw [zN_lt (by omega) (by omega) (by omega) (by omega)]; omega), if_neg h, lN_z]
      congr 1
      omega
    · rw [if_pos (by rw [zN_lt (by omega) (by omega) (by omega) (by omega)]; omega), if_neg h, lN_z]
      congr 1
      omega
theorem thA_app {M F : List Th} {t : Nat} (h : t < M.length) : thA (M ++ F) t = thA M t := by
  unfold thA
  simp [List.getD_eq_getElem?_getD, List.getElem?_append_left h]
theorem fnd_lt {L : List Th} {s l t : Nat} (h : fnd L s l = some t) : t < L.length := by
  unfold fnd at h
  rw [List.findIdx?_eq_some_iff_getElem] at h
  exact h.1
theorem fnd_at {L : List Th} {s l t : Nat} (h : fnd L s l = some t) : (thA L t).1 = s ∧ (thA L t).2.1 = l := by
  unfold fnd at h
  rw [List.findIdx?_eq_some_iff_getElem] at h
  obtain ⟨h1, h2, _⟩ := h
  unfold thA
  rw [List.getD_eq_getElem?_getD, List.getElem?_eq_getElem h1]
  unfold isT at h2
  simp at h2
  exact h2
theorem fnd_none {L : List Th} {s l : Nat} : fnd L s l = none ↔ inB L s l = false := by
  unfold fnd inB
  rw [List.findIdx?_eq_none_iff, List.any_eq_false]
  constructor
  · intro h x hx
    simp [h x hx]
  · intro h x hx
    have := h x hx
    simpa using this
theorem fnd_app (M F : List Th) (s l : Nat) : fnd (M ++ F) s l = (fnd M s l).or ((fnd F s l).map (· + M.length)) := by
  unfold fnd
  exact List.findIdx?_append
/-- a made one: its number is below the made ones' -/
theorem fnd_made {M F : List Th} {s l t : Nat} : fnd (M ++ F) s l = some t ∧ t < M.length ↔ fnd M s l = some t := by
  rw [fnd_app]
  cases h : fnd M s l with
  | none =>
    simp
    intro u _ hu
    omega
  | some u =>
    have := fnd_lt h
    simp
    intro h2
    omega
theorem cnt_le (L : List Th) (s : Nat) : cnt L s ≤ L.length := List.countP_le_length
/-- the thunks' addresses -/
def plc (T : Nat → Nat → Nat) (M : List Th) (t : Nat) : Nat := pS T (cnt M) (thA M t).1 + rk M t * up (T 0 5) (T 0 6)
def helpB (T : Nat → Nat → Nat) (M : List Th) (b t : Nat) : Bool := rch (T 10 (T 8 b)) (T 11 (T 8 b)) (braA T (cnt M) b) (plc T M t) && rch (T 10 (T 0 7)) (T 11 (T 0 7)) (plc T M t) (labA T (cnt M) (thA M t).2.1)
def couB (T : Nat → Nat → Nat) (M : List Th) (b s : Nat) : Bool := (T 3 s != 0) && !(inB M s (T 9 b)) && rch (T 10 (T 8 b)) (T 11 (T 8 b)) (braA T (cnt M) b) (pE T (cnt M) s) && rch (T 10 (T 0 7)) (T 11 (T 0 7)) (pE T (cnt M) s) (labA T (cnt M) (T 9 b))
/-- the nearest thunk that helps, the nearest pool that could -/
def bst (T : Nat → Nat → Nat) (M : List Th) (b : Nat) : Nat → Option Nat := amin (fun s => (fnd M s (T 9 b)).filter (helpB T M b)) (fun t => dst (braA T (cnt M) b) (plc T M t))
def wst (T : Nat → Nat → Nat) (M : List Th) (b : Nat) : Nat → Option Nat := amin (fun s => if couB T M b s = true then some s else none) (fun s => dst (braA T (cnt M) b) (pE T (cnt M) s))
/-- the list is one that a layout makes -/
def TW (T : Nat → Nat → Nat) (L : List Th) : Prop := (∀ t, t < L.length → (thA L t).1 < T 0 0 ∧ (thA L t).2.1 < T 0 1 ∧ (thA L t).2.2.1 ≤ 2401 ∧ (thA L t).2.2.2 < T 0 2) ∧ (∀ t u, t < L.length → u < L.length → (thA L t).1 = (thA L u).1 → (thA L t).2.1 = (thA L u).2.1 → t = u)
/-- what the cells of the thunks hold: M made ones, F wanted ones -/
def TH (I : Nat → Nat → Int32) (J : Nat → Nat → Int64) (T : Nat → Nat → Nat) (cap : Nat) (M F : List Th) : Prop :=
  (I 38 0 = nI M.length ∧ I 38 1 = nI (M ++ F).length ∧ (M ++ F).length ≤ cap ∧ cap ≤ 2400) ∧
  (∀ t, t < (M ++ F).length → I 39 t = nI (thA (M ++ F) t).1 ∧ I 40 t = nI (thA (M ++ F) t).2.1 ∧ I 41 t = nI (thA (M ++ F) t).2.2.1 ∧ I 42 t = nI (thA (M ++ F) t).2.2.2) ∧
  (∀ t, t < M.length → I 44 t = nI (rk M t)) ∧ (∀ s, s < 40 → I 46 s = nI (cnt M s)) ∧
  (∀ s l, s < 40 → l < 60 → I 47 (s * 60 + l) = oI (fnd (M ++ F) s l))
/-- and their places, as found -/
def PL (J : Nat → Nat → Int64) (T : Nat → Nat → Nat) (M : List Th) : Prop := ∀ t, t < M.length → J 45 t = lN (plc T M t)
theorem rk_le (L : List Th) (t : Nat) : rk L t ≤ L.length := by
  unfold rk
  have h := cnt_le (L.take t) (thA L t).1
  have h2 : (L.take t).length ≤ L.length := by rw [List.length_take]; omega
  omega
theorem plc_le {T : Nat → Nat → Nat} {M : List Th} (hW : WF T) (hM : M.length ≤ 2400) (hT : TW T M) {t : Nat} (ht : t < M.length) : plc T M t < 2 ^ 34 := by
  have h1 := pS_le hW (fun s => Nat.le_trans (cnt_le M s) hM) (hT.1 t ht).1
  have h2 := mul_le_b (Nat.le_trans (rk_le M t) hM) (stride_le hW)
  unfold plc
  omega
