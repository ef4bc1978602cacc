/-! no pool gets a second thunk for a label: at most 2400 of them -/
theorem pigeon : ∀ (N n : Nat) (f : Nat → Nat), (∀ t, t < n → f t < N) → (∀ t u, t < n → u < n → f t = f u → t = u) → n ≤ N := by
  intro N
  induction N with
  | zero =>
    intro n f h1 _
    rcases Nat.eq_zero_or_pos n with h | h
    · omega
    · exact absurd (h1 0 h) (by omega)
  | succ N ih =>
    intro n f h1 h2
    by_cases hx : ∃ t, t < n ∧ f t = N
    · obtain ⟨t0, ht0, hf0⟩ := hx
      have h3 : n - 1 ≤ N := by
        apply ih (n - 1) (fun t => if t = t0 then f (n - 1) else f t)
        · intro t ht
          by_cases he : t = t0
          · simp only [he, if_true]
            have h5 := h1 (n - 1) (by omega)
            by_cases h6 : f (n - 1) = N
            · have := h2 (n - 1) t0 (by omega) ht0 (by rw [h6, hf0])
              omega
            · omega
          · simp only [he, if_false]
            have h5 := h1 t (by omega)
            by_cases h6 : f t = N
            · have := h2 t t0 (by omega) ht0 (by rw [h6, hf0])
              omega
            · omega
        · intro t u ht hu he
          by_cases h5 : t = t0
          · by_cases h6 : u = t0
            · omega
            · simp only [h5, h6, if_true, if_false] at he
              have := h2 (n - 1) u (by omega) (by omega) he
              omega
          · by_cases h6 : u = t0
            · simp only [h5, h6, if_true, if_false] at he
              have := h2 t (n - 1) (by omega) (by omega) he
              omega
            · simp only [h5, h6, if_false] at he
              exact h2 t u (by omega) (by omega) he
      omega
    · have := ih n f (fun t ht => by
        have h5 := h1 t ht
        by_cases h6 : f t = N
        · exact absurd ⟨t, ht, h6⟩ hx
        · omega) h2
      omega
theorem TW_len {T : Nat → Nat → Nat} {L : List Th} (hW : WF T) (h : TW T L) : L.length ≤ 2400 := by
  apply pigeon 2400 L.length (fun t => (thA L t).1 * 60 + (thA L t).2.1)
  · intro t ht
    obtain ⟨g1, g2, _⟩ := h.1 t ht
    have := hW.1.1
    have := hW.1.2.1
    show _ < 2400
    omega
  · intro t u ht hu he
    obtain ⟨_, g2, _⟩ := h.1 t ht
    obtain ⟨_, g4, _⟩ := h.1 u hu
    have := hW.1.2.1
    obtain ⟨e1, e2⟩ := idx_inj (by omega) (by omega) he
    exact h.2 t u ht hu e1 e2
theorem TW_nil (T : Nat → Nat → Nat) : TW T [] := ⟨fun t ht => absurd ht (by simp), fun t u ht => absurd ht (by simp)⟩
theorem inB_false {L : List Th} {s l : Nat} (h : inB L s l = false) {t : Nat} (ht : t < L.length) : ¬ ((thA L t).1 = s ∧ (thA L t).2.1 = l) := by
  unfold inB at h
  rw [List.any_eq_false] at h
  have e : thA L t = L[t] := by
    unfold thA
    rw [List.getD_eq_getElem?_getD, List.getElem?_eq_getElem ht]
    rfl
  have := h L[t] (List.getElem_mem ht)
  unfold isT at this
  rw [e]
  intro h9
  apply this
  simp [h9.1, h9.2]
theorem TW_add {T : Nat → Nat → Nat} {L : List Th} {x : Th} (h : TW T L) (h1 : x.1 < T 0 0) (h2 : x.2.1 < T 0 1) (h3 : x.2.2.1 ≤ 2401) (h4 : x.2.2.2 < T 0 2) (hno : inB L x.1 x.2.1 = false) : TW T (L ++ [x]) := by
  refine ⟨fun t ht => ?_, fun t u ht hu e1 e2 => ?_⟩
  · rw [List.length_append, List.length_singleton] at ht
    rcases lt_s2 ht with rfl | h9
    · rw [thA_last]
      exact ⟨h1, h2, h3, h4⟩
    · rw [thA_app h9]
      exact h.1 t h9
  · rw [List.length_append, List.length_singleton] at ht hu
    rcases lt_s2 ht with rfl | h9
    · rcases lt_s2 hu with rfl | h8
      · rfl
      · rw [thA_last, thA_app h8] at e1 e2
        exact absurd ⟨e1.symm, e2.symm⟩ (inB_false hno h8)
    · rcases lt_s2 hu with rfl | h8
      · rw [thA_last, thA_app h9] at e1 e2
        exact absurd ⟨e1, e2⟩ (inB_false hno h9)
      · rw [thA_app h9, thA_app h8] at e1 e2
        exact h.2 t u h9 h8 e1 e2
theorem wntL_ok {T : Nat → Nat → Nat} {M F : List Th} {r b : Nat} (hW : WF T) (hb : b < T 0 2) (hr : r ≤ 2401) (h : TW T (M ++ F)) : TW T (M ++ (F ++ wntL T M F r b)) := by
  unfold wntL
  by_cases ha : anyW T M F b = true
  · rw [if_pos ha, List.append_nil]
    exact h
  · rw [if_neg ha]
    cases hw : wst T M b (T 0 0) with
    | none =>
      simp only [List.append_nil]
      exact h
    | some s =>
      obtain ⟨g1, g2⟩ := wst_lt _ _ hw
      rw [← List.append_assoc]
      refine TW_add h g1 (hW.2.2.2.1 b hb).2.2.2.2 hr hb ?_
      show inB (M ++ F) s (T 9 b) = false
      rw [inB_app, (cou_inM g2).1]
      cases hf : inB F s (T 9 b) with
      | false => rfl
      | true => exact absurd (anyW_yes g1 g2 hf) ha
theorem rnd_TW {T : Nat → Nat → Nat} {M : List Th} {r : Nat} (hW : WF T) (hr : r ≤ 2401) (h : TW T M) : ∀ k, k ≤ T 0 2 → TW T (M ++ rnd T M r k) := by
  intro k
  induction k with
  | zero =>
    intro _
    simp only [rnd, List.append_nil]
    exact h
  | succ k ih =>
    intro hk
    have h1 := ih (by omega)
    simp only [rnd, stp]
    split
    · exact h1
    · exact wntL_ok hW (by omega) hr h1
theorem rnd_mono {T : Nat → Nat → Nat} {M : List Th} {r : Nat} : ∀ d k, (rnd T M r k).length ≤ (rnd T M r (k + d)).length := by
  intro d
  induction d with
  | zero => intro k; exact Nat.le_refl _
  | succ d ih =>
    intro k
    have h := ih k
    have h2 : (rnd T M r (k + d)).length ≤ (rnd T M r (k + d + 1)).length := by
      simp only [rnd, stp]
      split
      · omega
      · rw [List.length_append]
        omega
    have : k + (d + 1) = k + d + 1 := by omega
    rw [this]
    omega
theorem rnd_le {T : Nat → Nat → Nat} {M : List Th} {r k n : Nat} (h : k ≤ n) : (M ++ rnd T M r k).length ≤ (M ++ rnd T M r n).length := by
  have := rnd_mono (T := T) (M := M) (r := r) (n - k) k
  rw [show k + (n - k) = n by omega] at this
  rw [List.length_append, List.length_append]
  omega
def rndF (T : Nat → Nat → Nat) (M : List Th) (r : Nat) : List Th := if T 0 5 = 0 then [] else rnd T M r (T 0 2)
theorem RT18_eqx {I I' : Nat → Nat → Int32} {T : Nat → Nat → Nat} (h : RT18 I T) (he : ∀ j, 18 ≤ j → j ≤ 33 → I' j = I j) : RT18 I' T := by
  unfold RT18 at *
  simp only [he 18 (by decide) (by decide), he 19 (by decide) (by decide), he 20 (by decide) (by decide), he 21 (by decide) (by decide), he 22 (by decide) (by decide), he 23 (by decide) (by decide), he 24 (by decide) (by decide), he 25 (by decide) (by decide), he 27 (by decide) (by decide), he 28 (by decide) (by decide), he 29 (by decide) (by decide), he 30 (by decide) (by decide), he 31 (by decide) (by decide), he 32 (by decide) (by decide), he 33 (by decide) (by decide)]
  exact h
theorem EqJ.tr2 {S1 S2 S : List Nat} {J J1 J2 : Nat → Nat → Int64} (h1 : EqJ S1 J J1) (h2 : EqJ S2 J1 J2) (hs1 : ∀ k, k ∈ S1 → k ∈ S) (hs2 : ∀ k, k ∈ S2 → k ∈ S) : EqJ S J J2 := fun j hj => by
  rw [h2 j (fun e => hj (hs2 j e)), h1 j (fun e => hj (hs1 j e))]
