/-! ADDRESSES rise; the nearest thunk is the same whichever way it is sought -/
theorem up_mul_add {m a k : Nat} : up (m * 2 ^ k + a) k = m * 2 ^ k + up a k := by
  unfold up
  have h : 0 < 2 ^ k := Nat.two_pow_pos k
  by_cases ha : a = 0
  · subst ha
    rw [Nat.add_zero, Nat.zero_add]
    have e1 : (2 ^ k - 1) / 2 ^ k = 0 := Nat.div_eq_of_lt (by omega)
    have e2 : (m * 2 ^ k + 2 ^ k - 1) / 2 ^ k = m := by
      rw [show m * 2 ^ k + 2 ^ k - 1 = (2 ^ k - 1) + m * 2 ^ k by omega, Nat.add_mul_div_right _ _ h, e1]
      omega
    rw [e1, e2]
    omega
  · rw [show m * 2 ^ k + a + 2 ^ k - 1 = (a + 2 ^ k - 1) + m * 2 ^ k by omega, Nat.add_mul_div_right _ _ h, Nat.add_mul]
    omega
theorem up_form (a k : Nat) : ∃ m, up a k = m * 2 ^ k := ⟨_, rfl⟩
def stride (T : Nat → Nat → Nat) : Nat := up (T 0 5) (T 0 6)
/-- the end of what stands behind section s with c thunks there -/
def atK (T : Nat → Nat → Nat) (n : Nat → Nat) (s c : Nat) : Nat := if c = 0 then sA T n s + T 1 s else pS T n s + (c - 1) * up (T 0 5) (T 0 6) + T 0 5
theorem atK_up {T : Nat → Nat → Nat} {n : Nat → Nat} {s c : Nat} : up (atK T n s c) (T 0 6) = pS T n s + c * up (T 0 5) (T 0 6) := by
  unfold atK
  split
  · rename_i h
    rw [h]
    unfold pS
    omega
  · rename_i h
    obtain ⟨m1, h1⟩ := up_form (sA T n s + T 1 s) (T 0 6)
    obtain ⟨m2, h2⟩ := up_form (T 0 5) (T 0 6)
    have e : pS T n s + (c - 1) * up (T 0 5) (T 0 6) = (m1 + (c - 1) * m2) * 2 ^ T 0 6 := by
      unfold pS
      rw [h1, h2, Nat.add_mul, Nat.mul_assoc]
    rw [e, up_mul_add, ← e]
    obtain ⟨d, rfl⟩ : ∃ d, c = d + 1 := ⟨c - 1, by omega⟩
    rw [Nat.add_sub_cancel, Nat.succ_mul]
    omega
theorem atK_succ {T : Nat → Nat → Nat} {n : Nat → Nat} {s c : Nat} : atK T n s (c + 1) = pS T n s + c * up (T 0 5) (T 0 6) + T 0 5 := by
  unfold atK
  rw [if_neg (by omega), Nat.add_sub_cancel]
theorem atK_sAt {T : Nat → Nat → Nat} {n : Nat → Nat} {s : Nat} : atK T n s (n s) = sAt T n (s + 1) := by
  unfold atK
  by_cases h : n s = 0
  · rw [if_pos h, sAt_zero h]
  · rw [if_neg h, sAt_some h]
theorem atK_le {T : Nat → Nat → Nat} {n : Nat → Nat} (hW : WF T) (hn : ∀ s, n s ≤ 2400) {s c : Nat} (hs : s < T 0 0) (hc : c ≤ 2400) : atK T n s c < 2 ^ 34 := by
  have h1 := sA_le hW hn hs
  have h2 := pS_le hW hn hs
  have h3 := (hW.2.1 s hs).1
  have h4 := hW.1.2.2.2.2.2.1
  have h5 := mul_le_b (show c - 1 ≤ 2400 by omega) (stride_le hW)
  unfold atK
  split <;> omega
theorem pE_up {T : Nat → Nat → Nat} {n : Nat → Nat} {s : Nat} : up (sAt T n (s + 1)) (T 0 6) = pE T n s := by
  rw [← atK_sAt, atK_up]
  rfl
theorem pE_flat {T : Nat → Nat → Nat} {n : Nat → Nat} {s : Nat} (h : T 0 6 = 0) (hn : n s = 0) : pE T n s = sAt T n (s + 1) := by
  rw [← pE_up, h]
  unfold up
  simp
theorem sA_next {T : Nat → Nat → Nat} {n : Nat → Nat} (s : Nat) : sA T n s ≤ sAt T n (s + 1) := by
  rw [← atK_sAt]
  unfold atK
  have h := up_ge (sA T n s + T 1 s) (T 0 6)
  split
  · omega
  · unfold pS
    omega
theorem sAt_mono2 {T : Nat → Nat → Nat} {n : Nat → Nat} {s d : Nat} : sAt T n s ≤ sAt T n (s + d) := by
  induction d with
  | zero => exact Nat.le_refl _
  | succ d ih =>
    have := sAt_mono (T := T) (n := n) (s + d)
    rw [show s + (d + 1) = s + d + 1 by omega]
    omega
theorem pS_ge {T : Nat → Nat → Nat} {n : Nat → Nat} (s : Nat) : sAt T n s ≤ pS T n s := by
  have h1 := up_ge (sAt T n s) (T 2 s)
  have h2 := up_ge (sA T n s + T 1 s) (T 0 6)
  unfold pS
  unfold sA at h2 ⊢
  omega
theorem sA_ge {T : Nat → Nat → Nat} {n : Nat → Nat} (s : Nat) : sAt T n s ≤ sA T n s := up_ge _ _
theorem pE_ge {T : Nat → Nat → Nat} {n : Nat → Nat} (s : Nat) : sAt T n (s + 1) ≤ pE T n s := by
  rw [← pE_up]
  exact up_ge _ _
theorem up_mono {a b k : Nat} (h : a ≤ b) : up a k ≤ up b k := by
  unfold up
  exact Nat.mul_le_mul_right _ (Nat.div_le_div_right (by omega))
theorem pE_step {T : Nat → Nat → Nat} {n : Nat → Nat} (s : Nat) : pE T n s ≤ pE T n (s + 1) := by
  rw [← pE_up, ← pE_up]
  exact up_mono (sAt_mono _)
theorem pE_mono {T : Nat → Nat → Nat} {n : Nat → Nat} {s s' : Nat} (h : s ≤ s') : pE T n s ≤ pE T n s' := by
  obtain ⟨d, rfl⟩ : ∃ d, s' = s + d := ⟨s' - s, by omega⟩
  induction d with
  | zero => exact Nat.le_refl _
  | succ d ih =>
    have h1 := ih (by omega)
    have h2 := pE_step (T := T) (n := n) (s + d)
    rw [show s + (d + 1) = s + d + 1 by omega]
    omega
theorem rk_lt {M : List Th} {t : Nat} (ht : t < M.length) : rk M t < cnt M (thA M t).1 := by
  have h1 := cnt_take_succ ht (thA M t).1
  rw [if_pos rfl] at h1
  have h2 : cnt (M.take (t + 1)) (thA M t).1 ≤ cnt M (thA M t).1 := by
    unfold cnt
    exact (List.take_sublist _ _).countP_le
  unfold rk
  omega
theorem plc_hi {T : Nat → Nat → Nat} {M : List Th} {t : Nat} (ht : t < M.length) : plc T M t + T 0 5 ≤ sAt T (cnt M) ((thA M t).1 + 1) := by
  have h := rk_lt ht
  rw [← atK_sAt]
  unfold atK plc
  rw [if_neg (by omega)]
  have : rk M t * up (T 0 5) (T 0 6) ≤ (cnt M (thA M t).1 - 1) * up (T 0 5) (T 0 6) := Nat.mul_le_mul_right _ (by omega)
  omega
theorem plc_lo {T : Nat → Nat → Nat} {M : List Th} (t : Nat) : sAt T (cnt M) (thA M t).1 ≤ plc T M t := by
  have := pS_ge (T := T) (n := cnt M) (thA M t).1
  unfold plc
  omega
/-- a thunk of an earlier pool lies lower -/
theorem plc_rise {T : Nat → Nat → Nat} {M : List Th} (htz : 0 < T 0 5) {t u : Nat} (ht : t < M.length) (h : (thA M t).1 < (thA M u).1) : plc T M t < plc T M u := by
  have h1 := plc_hi (T := T) ht
  have h2 := plc_lo (T := T) (M := M) u
  have h3 := sAt_mono2 (T := T) (n := cnt M) (s := (thA M t).1 + 1) (d := (thA M u).1 - ((thA M t).1 + 1))
  rw [show (thA M t).1 + 1 + ((thA M u).1 - ((thA M t).1 + 1)) = (thA M u).1 by omega] at h3
  omega
/-- the thunks that can be used -/
def cand (T : Nat → Nat → Nat) (M : List Th) (b t : Nat) : Prop := t < M.length ∧ (thA M t).2.1 = T 9 b ∧ helpB T M b t = true
def nearP (T : Nat → Nat → Nat) (M : List Th) (b t u : Nat) : Prop := dst (braA T (cnt M) b) (plc T M t) < dst (braA T (cnt M) b) (plc T M u) ∨ (dst (braA T (cnt M) b) (plc T M t) = dst (braA T (cnt M) b) (plc T M u) ∧ plc T M t < plc T M u)
def nearB (x a b : Nat) : Bool := decide (dst x a < dst x b ∨ (dst x a = dst x b ∧ a < b))
def mst (T : Nat → Nat → Nat) (M : List Th) (b : Nat) : Nat → Option Nat
  | 0 => none
  | k + 1 => if (thA M k).2.1 = T 9 b ∧ helpB T M b k = true then (match mst T M b k with
    | none => some k
    | some u => if nearB (braA T (cnt M) b) (plc T M k) (plc T M u) = true then some k else some u) else mst T M b k
theorem nearB_iff {T : Nat → Nat → Nat} {M : List Th} {b t u : Nat} : nearB (braA T (cnt M) b) (plc T M t) (plc T M u) = true ↔ nearP T M b t u := by
  unfold nearB nearP
  rw [decide_eq_true_iff]
theorem mst_spec {T : Nat → Nat → Nat} {M : List Th} {b : Nat} : ∀ k, k ≤ M.length → (match mst T M b k with
    | none => ∀ t, t < k → ¬ cand T M b t
    | some u => u < k ∧ cand T M b u ∧ ∀ t, t < k → cand T M b t → t ≠ u → ¬ nearP T M b t u) := by
  intro k
  induction k with
  | zero =>
    intro _
    simp only [mst]
    intro t ht
    omega
  | succ k ih =>
    intro hk
    have h := ih (by omega)
    by_cases hc : (thA M k).2.1 = T 9 b ∧ helpB T M b k = true
    · have hcd : cand T M b k := ⟨by omega, hc.1, hc.2⟩
      simp only [mst]
      rw [if_pos hc]
      cases hm : mst T M b k with
      | none =>
        rw [hm] at h
        simp only at h ⊢
        refine ⟨by omega, hcd, fun t ht hct hne => ?_⟩
        exact absurd hct (h t (by omega))
      | some u =>
        rw [hm] at h
        simp only at h ⊢
        obtain ⟨h1, h2, h3⟩ := h
        by_cases hn : nearB (braA T (cnt M) b) (plc T M k) (plc T M u) = true
        · rw [if_pos hn]
          have hn2 := nearB_iff.mp hn
          refine ⟨by omega, hcd, fun t ht hct hne hnt => ?_⟩
          by_cases htu : t = u
          · subst htu
            unfold nearP at hn2 hnt
            omega
          · have h4 := h3 t (by omega) hct htu
            unfold nearP at hn2 hnt h4
            omega
        · rw [if_neg hn]
          have hn2 : ¬ nearP T M b k u := fun h9 => hn (nearB_iff.mpr h9)
          refine ⟨by omega, h2, fun t ht hct hne => ?_⟩
          rcases lt_s2 ht with rfl | h9
          · exact hn2
          · exact h3 t h9 hct hne
    · simp only [mst]
      rw [if_neg hc]
      cases hm : mst T M b k with
      | none =>
        rw [hm] at h
        simp only at h ⊢
        intro t ht hct
        rcases lt_s2 ht with rfl | h9
        · exact hc ⟨hct.2.1, hct.2.2⟩
        · exact h t h9 hct
      | some u =>
        rw [hm] at h
        simp only at h ⊢
        obtain ⟨h1, h2, h3⟩ := h
        refine ⟨by omega, h2, fun t ht hct hne => ?_⟩
        rcases lt_s2 ht with rfl | h9
        · exact absurd ⟨hct.2.1, hct.2.2⟩ hc
        · exact h3 t h9 hct hne
theorem fnd_of {T : Nat → Nat → Nat} {M : List Th} (h : TW T M) {t : Nat} (ht : t < M.length) : fnd M (thA M t).1 (thA M t).2.1 = some t := by
  cases hf : fnd M (thA M t).1 (thA M t).2.1 with
  | none =>
    exact absurd ⟨rfl, rfl⟩ (inB_false (fnd_none.mp hf) ht)
  | some u =>
    obtain ⟨h1, h2⟩ := fnd_at hf
    rw [h.2 u t (fnd_lt hf) ht h1 h2]
theorem bst_spec {T : Nat → Nat → Nat} {M : List Th} (htz : 0 < M.length → 0 < T 0 5) (hT : TW T M) {b : Nat} : ∀ k, (match bst T M b k with
    | none => ∀ t, cand T M b t → (thA M t).1 < k → False
    | some u => cand T M b u ∧ (thA M u).1 < k ∧ ∀ t, cand T M b t → (thA M t).1 < k → t ≠ u → ¬ nearP T M b t u) := by
  intro k
  induction k with
  | zero =>
    simp only [bst, amin]
    intro t _ h
    omega
  | succ k ih =>
    -- the candidate of pool k, if there is one
    cases hf : fnd M k (T 9 b) with
    | none =>
      rw [bst_none hf]
      have hno : ∀ t, cand T M b t → (thA M t).1 = k → False := fun t ht he => by
        have := inB_false (fnd_none.mp hf) ht.1
        exact this ⟨he, ht.2.1⟩
      cases hb : bst T M b k with
      | none =>
        rw [hb] at ih
        simp only at ih ⊢
        intro t ht h9
        rcases lt_s2 h9 with h8 | h8
        · exact hno t ht h8
        · exact ih t ht h8
      | some u =>
        rw [hb] at ih
        simp only at ih ⊢
        obtain ⟨h1, h2, h3⟩ := ih
        refine ⟨h1, by omega, fun t ht h9 hne => ?_⟩
        rcases lt_s2 h9 with h8 | h8
        · exact absurd h8 (fun h7 => hno t ht h7)
        · exact h3 t ht h8 hne
    | some v =>
      have hv := fnd_lt hf
      obtain ⟨hv1, hv2⟩ := fnd_at hf
      have hun : ∀ t, cand T M b t → (thA M t).1 = k → t = v := fun t ht he => hT.2 t v ht.1 hv (by rw [he, hv1]) (by rw [ht.2.1, hv2])
      by_cases h2 : helpB T M b v = true
      · have hcv : cand T M b v := ⟨hv, hv2, h2⟩
        cases hb : bst T M b k with
        | none =>
          rw [bst_first hf h2 hb]
          rw [hb] at ih
          simp only at ih ⊢
          refine ⟨hcv, by omega, fun t ht h9 hne => ?_⟩
          rcases lt_s2 h9 with h8 | h8
          · exact absurd (hun t ht h8) hne
          · exact absurd h8 (fun h7 => ih t ht h7)
        | some u =>
          rw [hb] at ih
          simp only at ih
          obtain ⟨i1, i2, i3⟩ := ih
          have hup : plc T M u < plc T M v := plc_rise (htz (by omega)) i1.1 (by omega)
          by_cases h4 : dst (braA T (cnt M) b) (plc T M v) < dst (braA T (cnt M) b) (plc T M u)
          · rw [bst_less hf h2 hb h4]
            simp only
            refine ⟨hcv, by omega, fun t ht h9 hne hnt => ?_⟩
            rcases lt_s2 h9 with h8 | h8
            · exact absurd (hun t ht h8) hne
            · by_cases htu : t = u
              · subst htu
                unfold nearP at hnt
                omega
              · have := i3 t ht h8 htu
                unfold nearP at this hnt
                omega
          · rw [bst_keep hf h2 hb h4, hb]
            simp only
            refine ⟨i1, by omega, fun t ht h9 hne hnt => ?_⟩
            rcases lt_s2 h9 with h8 | h8
            · have := hun t ht h8
              subst this
              unfold nearP at hnt
              omega
            · exact i3 t ht h8 hne hnt
      · rw [bst_nohelp hf h2]
        have hno : ∀ t, cand T M b t → (thA M t).1 = k → False := fun t ht he => by
          have := hun t ht he
          subst this
          exact h2 ht.2.2
        cases hb : bst T M b k with
        | none =>
          rw [hb] at ih
          simp only at ih ⊢
          intro t ht h9
          rcases lt_s2 h9 with h8 | h8
          · exact hno t ht h8
          · exact ih t ht h8
        | some u =>
          rw [hb] at ih
          simp only at ih ⊢
          obtain ⟨h1, h2, h3⟩ := ih
          refine ⟨h1, by omega, fun t ht h9 hne => ?_⟩
          rcases lt_s2 h9 with h8 | h8
          · exact absurd h8 (fun h7 => hno t ht h7)
          · exact h3 t ht h8 hne
theorem mst_bst {T : Nat → Nat → Nat} {M : List Th} (htz : 0 < M.length → 0 < T 0 5) (hT : TW T M) (b : Nat) : mst T M b M.length = bst T M b (T 0 0) := by
  have h1 := mst_spec (T := T) (M := M) (b := b) M.length (Nat.le_refl _)
  have h2 := bst_spec htz hT (b := b) (T 0 0)
  cases hm : mst T M b M.length with
  | none =>
    rw [hm] at h1
    simp only at h1
    cases hb : bst T M b (T 0 0) with
    | none => rfl
    | some u =>
      rw [hb] at h2
      simp only at h2
      exact absurd h2.1 (h1 u h2.1.1)
  | some v =>
    rw [hm] at h1
    simp only at h1
    obtain ⟨a1, a2, a3⟩ := h1
    have hvs := (hT.1 v a1).1
    cases hb : bst T M b (T 0 0) with
    | none =>
      rw [hb] at h2
      simp only at h2
      exact absurd hvs (fun h9 => h2 v a2 h9)
    | some u =>
      rw [hb] at h2
      simp only at h2
      obtain ⟨b1, b2, b3⟩ := h2
      by_cases he : v = u
      · rw [he]
      · have c1 := a3 u b1.1 b1 (fun h9 => he h9.symm)
        have c2 := b3 v a2 hvs he
        -- two different ones are at different addresses
        have hz := htz (by omega)
        have hne : (thA M v).1 ≠ (thA M u).1 := fun h9 => he (hT.2 v u a1 b1.1 h9 (by rw [a2.2.1, b1.2.1]))
        unfold nearP at c1 c2
        rcases Nat.lt_or_gt_of_ne hne with h9 | h9
        · have := plc_rise (T := T) hz a1 h9
          omega
        · have := plc_rise (T := T) hz b1.1 h9
          omega
