/-! ROUND BY ROUND until none is wanted -/
def lays (T : Nat → Nat → Nat) : Nat → List Th
  | 0 => []
  | r + 1 => lays T r ++ rndF T (lays T r) (r + 1)
def stopF (T : Nat → Nat → Nat) : Nat → Nat → Nat
  | 0, r => r
  | f + 1, r => if rndF T (lays T r) (r + 1) = [] then r else stopF T f (r + 1)
def stopR (T : Nat → Nat → Nat) : Nat := stopF T 2401 0
theorem rndF_TW {T : Nat → Nat → Nat} {M : List Th} {r : Nat} (hW : WF T) (hr : r ≤ 2401) (h : TW T M) : TW T (M ++ rndF T M r) := by
  unfold rndF
  split
  · rw [List.append_nil]
    exact h
  · exact rnd_TW hW hr h _ (Nat.le_refl _)
theorem lays_TW {T : Nat → Nat → Nat} (hW : WF T) : ∀ r, r ≤ 2401 → TW T (lays T r) := by
  intro r
  induction r with
  | zero =>
    intro _
    exact TW_nil T
  | succ r ih =>
    intro hr
    exact rndF_TW hW hr (ih (by omega))
theorem lays_ge {T : Nat → Nat → Nat} : ∀ r, (∀ q, q < r → ¬ rndF T (lays T q) (q + 1) = []) → r ≤ (lays T r).length := by
  intro r
  induction r with
  | zero =>
    intro _
    omega
  | succ r ih =>
    intro h
    have h1 := ih (fun q hq => h q (by omega))
    have h2 : 0 < (rndF T (lays T r) (r + 1)).length := List.length_pos_iff.mpr (h r (by omega))
    simp only [lays, List.length_append]
    omega
theorem stopF_ok {T : Nat → Nat → Nat} (hW : WF T) : ∀ f r, (∀ q, q < r → ¬ rndF T (lays T q) (q + 1) = []) → r + f = 2401 → rndF T (lays T (stopF T f r)) (stopF T f r + 1) = [] ∧ (∀ q, q < stopF T f r → ¬ rndF T (lays T q) (q + 1) = []) := by
  intro f
  induction f with
  | zero =>
    intro r h1 h2
    have h3 := lays_ge r h1
    have h4 := TW_len hW (lays_TW hW r (by omega))
    omega
  | succ f ih =>
    intro r h1 h2
    simp only [stopF]
    by_cases hx : rndF T (lays T r) (r + 1) = []
    · rw [if_pos hx]
      exact ⟨hx, h1⟩
    · rw [if_neg hx]
      exact ih (r + 1) (fun q hq => by
        rcases lt_s2 hq with rfl | h9
        · exact hx
        · exact h1 q h9) (by omega)
theorem stop_ok {T : Nat → Nat → Nat} (hW : WF T) : rndF T (lays T (stopR T)) (stopR T + 1) = [] ∧ (∀ q, q < stopR T → ¬ rndF T (lays T q) (q + 1) = []) := stopF_ok hW 2401 0 (fun q hq => absurd hq (by omega)) (by omega)
theorem stop_le {T : Nat → Nat → Nat} (hW : WF T) : stopR T ≤ 2400 := by
  by_cases h : stopR T ≤ 2400
  · exact h
  · have h1 := lays_ge (T := T) 2401 (fun q hq => (stop_ok hW).2 q (by omega))
    have h2 := TW_len hW (lays_TW hW 2401 (by omega))
    omega
theorem stop_is {T : Nat → Nat → Nat} (hW : WF T) {r : Nat} (h1 : ∀ q, q < r → ¬ rndF T (lays T q) (q + 1) = []) : r ≤ stopR T ∧ (rndF T (lays T r) (r + 1) = [] → r = stopR T) := by
  obtain ⟨g1, g2⟩ := stop_ok hW
  have h3 : r ≤ stopR T := by
    by_cases h : r ≤ stopR T
    · exact h
    · exact absurd g1 (h1 _ (by omega))
  refine ⟨h3, fun hx => ?_⟩
  by_cases h : r = stopR T
  · exact h
  · exact absurd hx (g2 r (by omega))
theorem lays_mono {T : Nat → Nat → Nat} {r : Nat} : ∀ d, (lays T r).length ≤ (lays T (r + d)).length := by
  intro d
  induction d with
  | zero => exact Nat.le_refl _
  | succ d ih =>
    have : (lays T (r + (d + 1))).length = (lays T (r + d)).length + (rndF T (lays T (r + d)) (r + d + 1)).length := by
      show (lays T (r + d) ++ rndF T (lays T (r + d)) (r + d + 1)).length = _
      rw [List.length_append]
    omega
theorem lays_le {T : Nat → Nat → Nat} {r n : Nat} (h : r ≤ n) : (lays T r).length ≤ (lays T n).length := by
  have := lays_mono (T := T) (r := r) (n - r)
  rw [show r + (n - r) = n by omega] at this
  exact this
theorem lays_tz {T : Nat → Nat → Nat} : ∀ r, 0 < (lays T r).length → 0 < T 0 5 := by
  intro r
  induction r with
  | zero =>
    intro h
    simp [lays] at h
  | succ r ih =>
    intro h
    by_cases hz : T 0 5 = 0
    · have : lays T (r + 1) = lays T r := by
        show lays T r ++ rndF T (lays T r) (r + 1) = _
        unfold rndF
        rw [if_pos hz, List.append_nil]
      rw [this] at h
      exact ih h
    · omega
/-- what is laid out of T -/
def layM (T : Nat → Nat → Nat) : List Th := lays T (stopR T)
theorem TH_nil {I : Nat → Nat → Int32} {J : Nat → Nat → Int64} {T : Nat → Nat → Nat} {c : Nat} (h0 : I 38 0 = 0) (h1 : I 38 1 = 0) (hc : c ≤ 2400) (h46 : ∀ t, t < 40 → I 46 t = 0) (h47 : ∀ t, t < 2400 → I 47 t = -1) : TH I J T c [] [] := by
  refine ⟨⟨?_, ?_, ?_, hc⟩, ?_, ?_, ?_, ?_⟩
  · rw [h0]; rfl
  · rw [h1]; rfl
  · simp
  · intro t ht
    simp at ht
  · intro t ht
    simp at ht
  · intro s hs
    rw [h46 s hs]
    rfl
  · intro s l hs hl
    rw [h47 _ (by omega)]
    rfl
