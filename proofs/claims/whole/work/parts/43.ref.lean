/-! THE REFERENCE: what its cells hold of what is told -/
def stpN (T : Nat → Nat → Nat) (k : Nat) : Nat := if T 11 k = 0 then 0 else 2 ^ T 10 k
def RM (I : Nat → Nat → Int32) (T : Nat → Nat → Nat) : Prop :=
  (I 55 0 = nI (T 0 0) ∧ I 55 1 = nI (T 0 1) ∧ I 55 2 = nI (T 0 2) ∧ I 55 3 = nI (T 0 3) ∧ I 55 18 = nI (T 0 4) ∧ I 55 15 = nI (T 0 5) ∧ I 55 16 = nI (T 0 6) ∧ (0 < T 0 5 → I 55 17 = nI (T 0 7))) ∧
  (∀ s, s < T 0 0 → I 56 s = nI (T 1 s) ∧ I 57 s = nI (T 2 s) ∧ I 58 s = nI (T 3 s)) ∧
  (∀ l, l < T 0 1 → I 59 l = nI (T 4 l) ∧ I 60 l = nI (T 5 l)) ∧
  (∀ b, b < T 0 2 → I 61 b = nI (T 6 b) ∧ I 62 b = nI (T 7 b) ∧ I 63 b = nI (T 8 b) ∧ I 64 b = nI (T 9 b)) ∧
  (∀ k, k < 8 → I 65 k = nI (stpN T k) ∧ I 66 k = nI (T 11 k))
/-- the reference's fields of what is laid out stay -/
def EqF (I I' : Nat → Nat → Int32) : Prop := ∀ k, 20 ≤ k → I' 55 k = I 55 k
theorem RM_addS {I : Nat → Nat → Int32} {T : Nat → Nat → Nat} {a k q : Nat} {I1 I2 I3 I4 I5 I6 : Nat → Nat → Int32} (h : RM I T) (e1 : va_up I 56 (upd (I 56) (T 0 0) (nI a)) = I1) (e2 : va_up I1 57 (upd (I1 57) (T 0 0) (nI k)) = I2) (e3 : va_up I2 58 (upd (I2 58) (T 0 0) (nI q)) = I3) (e4 : va_up I3 55 (upd (I3 55) 3 (nI (T 0 3 + q))) = I4) (e5 : va_up I4 55 (upd (I4 55) 0 (nI (T 0 0 + 1))) = I5) (e6 : va_up I5 55 (upd (I5 55) 19 1) = I6) : RM I6 (addS T a k q) ∧ EqX [55, 56, 57, 58] I I6 ∧ EqF I I6 ∧ I6 55 19 = 1 := by
  obtain ⟨⟨h1, h2, h3, h4, h5, h6, h7, h8⟩, hS, hL, hB, hK⟩ := h
  subst e1 e2 e3 e4 e5 e6
  refine ⟨⟨⟨?_, ?_, ?_, ?_, ?_, ?_, ?_, ?_⟩, ?_, ?_, ?_, ?_⟩, ?_, ?_, ?_⟩
  · simp [addS, u2, va_up, upd]
  · simpa [addS, u2, va_up, upd] using h2
  · simpa [addS, u2, va_up, upd] using h3
  · simp [addS, u2, va_up, upd]
  · simpa [addS, u2, va_up, upd] using h5
  · simpa [addS, u2, va_up, upd] using h6
  · simpa [addS, u2, va_up, upd] using h7
  · simpa [addS, u2, va_up, upd] using h8
  · intro j hj
    have hj2 : j < T 0 0 + 1 := by simpa [addS, u2, va_up, upd] using hj
    rcases lt_s2 hj2 with rfl | hj3
    · simp [addS, u2, va_up, upd]
    · have hne : j ≠ T 0 0 := by omega
      simpa [addS, u2, va_up, upd, hne] using hS j hj3
  · intro j hj
    have hj2 : j < T 0 1 := by simpa [addS, u2, va_up, upd] using hj
    simpa [addS, u2, va_up, upd, stpN] using hL j hj2
  · intro j hj
    have hj2 : j < T 0 2 := by simpa [addS, u2, va_up, upd] using hj
    simpa [addS, u2, va_up, upd, stpN] using hB j hj2
  · intro j hj
    have hj2 : j < 8 := by simpa [addS, u2, va_up, upd] using hj
    simpa [addS, u2, va_up, upd, stpN] using hK j hj2
  · refine EqX.up (EqX.up (EqX.up (EqX.up (EqX.up (EqX.up (EqX.rf) ?_) ?_) ?_) ?_) ?_) ?_ <;> decide
  · intro j9 hj9
    simp [va_up, upd, show j9 ≠ 0 by omega, show j9 ≠ 1 by omega, show j9 ≠ 2 by omega, show j9 ≠ 3 by omega, show j9 ≠ 15 by omega, show j9 ≠ 16 by omega, show j9 ≠ 17 by omega, show j9 ≠ 18 by omega, show j9 ≠ 19 by omega]
  · simp [va_up, upd]
theorem RM_addL {I : Nat → Nat → Int32} {T : Nat → Nat → Nat} {s f : Nat} {I1 I2 I3 I4 : Nat → Nat → Int32} (h : RM I T) (e1 : va_up I 59 (upd (I 59) (T 0 1) (nI s)) = I1) (e2 : va_up I1 60 (upd (I1 60) (T 0 1) (nI f)) = I2) (e3 : va_up I2 55 (upd (I2 55) 1 (nI (T 0 1 + 1))) = I3) (e4 : va_up I3 55 (upd (I3 55) 19 1) = I4) : RM I4 (addL T s f) ∧ EqX [55, 59, 60] I I4 ∧ EqF I I4 ∧ I4 55 19 = 1 := by
  obtain ⟨⟨h1, h2, h3, h4, h5, h6, h7, h8⟩, hS, hL, hB, hK⟩ := h
  subst e1 e2 e3 e4
  refine ⟨⟨⟨?_, ?_, ?_, ?_, ?_, ?_, ?_, ?_⟩, ?_, ?_, ?_, ?_⟩, ?_, ?_, ?_⟩
  · simpa [addL, u2, va_up, upd] using h1
  · simp [addL, u2, va_up, upd]
  · simpa [addL, u2, va_up, upd] using h3
  · simpa [addL, u2, va_up, upd] using h4
  · simpa [addL, u2, va_up, upd] using h5
  · simpa [addL, u2, va_up, upd] using h6
  · simpa [addL, u2, va_up, upd] using h7
  · simpa [addL, u2, va_up, upd] using h8
  · intro j hj
    have hj2 : j < T 0 0 := by simpa [addL, u2, va_up, upd] using hj
    simpa [addL, u2, va_up, upd, stpN] using hS j hj2
  · intro j hj
    have hj2 : j < T 0 1 + 1 := by simpa [addL, u2, va_up, upd] using hj
    rcases lt_s2 hj2 with rfl | hj3
    · simp [addL, u2, va_up, upd]
    · have hne : j ≠ T 0 1 := by omega
      simpa [addL, u2, va_up, upd, hne] using hL j hj3
  · intro j hj
    have hj2 : j < T 0 2 := by simpa [addL, u2, va_up, upd] using hj
    simpa [addL, u2, va_up, upd, stpN] using hB j hj2
  · intro j hj
    have hj2 : j < 8 := by simpa [addL, u2, va_up, upd] using hj
    simpa [addL, u2, va_up, upd, stpN] using hK j hj2
  · refine EqX.up (EqX.up (EqX.up (EqX.up (EqX.rf) ?_) ?_) ?_) ?_ <;> decide
  · intro j9 hj9
    simp [va_up, upd, show j9 ≠ 0 by omega, show j9 ≠ 1 by omega, show j9 ≠ 2 by omega, show j9 ≠ 3 by omega, show j9 ≠ 15 by omega, show j9 ≠ 16 by omega, show j9 ≠ 17 by omega, show j9 ≠ 18 by omega, show j9 ≠ 19 by omega]
  · simp [va_up, upd]
theorem RM_addB {I : Nat → Nat → Int32} {T : Nat → Nat → Nat} {s f k t : Nat} {I1 I2 I3 I4 I5 I6 : Nat → Nat → Int32} (h : RM I T) (e1 : va_up I 61 (upd (I 61) (T 0 2) (nI s)) = I1) (e2 : va_up I1 62 (upd (I1 62) (T 0 2) (nI f)) = I2) (e3 : va_up I2 63 (upd (I2 63) (T 0 2) (nI k)) = I3) (e4 : va_up I3 64 (upd (I3 64) (T 0 2) (nI t)) = I4) (e5 : va_up I4 55 (upd (I4 55) 2 (nI (T 0 2 + 1))) = I5) (e6 : va_up I5 55 (upd (I5 55) 19 1) = I6) : RM I6 (addB T s f k t) ∧ EqX [55, 61, 62, 63, 64] I I6 ∧ EqF I I6 ∧ I6 55 19 = 1 := by
  obtain ⟨⟨h1, h2, h3, h4, h5, h6, h7, h8⟩, hS, hL, hB, hK⟩ := h
  subst e1 e2 e3 e4 e5 e6
  refine ⟨⟨⟨?_, ?_, ?_, ?_, ?_, ?_, ?_, ?_⟩, ?_, ?_, ?_, ?_⟩, ?_, ?_, ?_⟩
  · simpa [addB, u2, va_up, upd] using h1
  · simpa [addB, u2, va_up, upd] using h2
  · simp [addB, u2, va_up, upd]
  · simpa [addB, u2, va_up, upd] using h4
  · simpa [addB, u2, va_up, upd] using h5
  · simpa [addB, u2, va_up, upd] using h6
  · simpa [addB, u2, va_up, upd] using h7
  · simpa [addB, u2, va_up, upd] using h8
  · intro j hj
    have hj2 : j < T 0 0 := by simpa [addB, u2, va_up, upd] using hj
    simpa [addB, u2, va_up, upd, stpN] using hS j hj2
  · intro j hj
    have hj2 : j < T 0 1 := by simpa [addB, u2, va_up, upd] using hj
    simpa [addB, u2, va_up, upd, stpN] using hL j hj2
  · intro j hj
    have hj2 : j < T 0 2 + 1 := by simpa [addB, u2, va_up, upd] using hj
    rcases lt_s2 hj2 with rfl | hj3
    · simp [addB, u2, va_up, upd]
    · have hne : j ≠ T 0 2 := by omega
      simpa [addB, u2, va_up, upd, hne] using hB j hj3
  · intro j hj
    have hj2 : j < 8 := by simpa [addB, u2, va_up, upd] using hj
    simpa [addB, u2, va_up, upd, stpN] using hK j hj2
  · refine EqX.up (EqX.up (EqX.up (EqX.up (EqX.up (EqX.up (EqX.rf) ?_) ?_) ?_) ?_) ?_) ?_ <;> decide
  · intro j9 hj9
    simp [va_up, upd, show j9 ≠ 0 by omega, show j9 ≠ 1 by omega, show j9 ≠ 2 by omega, show j9 ≠ 3 by omega, show j9 ≠ 15 by omega, show j9 ≠ 16 by omega, show j9 ≠ 17 by omega, show j9 ≠ 18 by omega, show j9 ≠ 19 by omega]
  · simp [va_up, upd]
theorem RM_addK {I : Nat → Nat → Int32} {T : Nat → Nat → Nat} {k p b : Nat} (hb0 : ¬ b = 0) {I1 I2 I3 : Nat → Nat → Int32} (h : RM I T) (e1 : va_up I 65 (upd (I 65) k (nI (2 ^ p))) = I1) (e2 : va_up I1 66 (upd (I1 66) k (nI b)) = I2) (e3 : va_up I2 55 (upd (I2 55) 19 1) = I3) : RM I3 (addK T k p b) ∧ EqX [55, 65, 66] I I3 ∧ EqF I I3 ∧ I3 55 19 = 1 := by
  obtain ⟨⟨h1, h2, h3, h4, h5, h6, h7, h8⟩, hS, hL, hB, hK⟩ := h
  subst e1 e2 e3
  refine ⟨⟨⟨?_, ?_, ?_, ?_, ?_, ?_, ?_, ?_⟩, ?_, ?_, ?_, ?_⟩, ?_, ?_, ?_⟩
  · simpa [addK, u2, va_up, upd] using h1
  · simpa [addK, u2, va_up, upd] using h2
  · simpa [addK, u2, va_up, upd] using h3
  · simpa [addK, u2, va_up, upd] using h4
  · simpa [addK, u2, va_up, upd] using h5
  · simpa [addK, u2, va_up, upd] using h6
  · simpa [addK, u2, va_up, upd] using h7
  · simpa [addK, u2, va_up, upd] using h8
  · intro j hj
    have hj2 : j < T 0 0 := by simpa [addK, u2, va_up, upd] using hj
    simpa [addK, u2, va_up, upd, stpN] using hS j hj2
  · intro j hj
    have hj2 : j < T 0 1 := by simpa [addK, u2, va_up, upd] using hj
    simpa [addK, u2, va_up, upd, stpN] using hL j hj2
  · intro j hj
    have hj2 : j < T 0 2 := by simpa [addK, u2, va_up, upd] using hj
    simpa [addK, u2, va_up, upd, stpN] using hB j hj2
  · intro j hj
    have hj2 : j < 8 := hj
    by_cases hne : j = k
    · subst hne
      simp [addK, u2, va_up, upd, stpN, hb0]
    · have := hK j hj2
      simp [stpN] at this
      simp [addK, u2, va_up, upd, hne, stpN]
      exact this
  · refine EqX.up (EqX.up (EqX.up (EqX.rf) ?_) ?_) ?_ <;> decide
  · intro j9 hj9
    simp [va_up, upd, show j9 ≠ 0 by omega, show j9 ≠ 1 by omega, show j9 ≠ 2 by omega, show j9 ≠ 3 by omega, show j9 ≠ 15 by omega, show j9 ≠ 16 by omega, show j9 ≠ 17 by omega, show j9 ≠ 18 by omega, show j9 ≠ 19 by omega]
  · simp [va_up, upd]
theorem RM_addT {I : Nat → Nat → Int32} {T : Nat → Nat → Nat} {s a k : Nat} {I1 I2 I3 I4 : Nat → Nat → Int32} (h : RM I T) (e1 : va_up I 55 (upd (I 55) 15 (nI s)) = I1) (e2 : va_up I1 55 (upd (I1 55) 16 (nI a)) = I2) (e3 : va_up I2 55 (upd (I2 55) 17 (nI k)) = I3) (e4 : va_up I3 55 (upd (I3 55) 19 1) = I4) : RM I4 (addT T s a k) ∧ EqX [55] I I4 ∧ EqF I I4 ∧ I4 55 19 = 1 := by
  obtain ⟨⟨h1, h2, h3, h4, h5, h6, h7, h8⟩, hS, hL, hB, hK⟩ := h
  subst e1 e2 e3 e4
  refine ⟨⟨⟨?_, ?_, ?_, ?_, ?_, ?_, ?_, ?_⟩, ?_, ?_, ?_, ?_⟩, ?_, ?_, ?_⟩
  · simpa [addT, u2, va_up, upd] using h1
  · simpa [addT, u2, va_up, upd] using h2
  · simpa [addT, u2, va_up, upd] using h3
  · simpa [addT, u2, va_up, upd] using h4
  · simpa [addT, u2, va_up, upd] using h5
  · simp [addT, u2, va_up, upd]
  · simp [addT, u2, va_up, upd]
  · simp [addT, u2, va_up, upd]
  · intro j hj
    have hj2 : j < T 0 0 := by simpa [addT, u2, va_up, upd] using hj
    simpa [addT, u2, va_up, upd, stpN] using hS j hj2
  · intro j hj
    have hj2 : j < T 0 1 := by simpa [addT, u2, va_up, upd] using hj
    simpa [addT, u2, va_up, upd, stpN] using hL j hj2
  · intro j hj
    have hj2 : j < T 0 2 := by simpa [addT, u2, va_up, upd] using hj
    simpa [addT, u2, va_up, upd, stpN] using hB j hj2
  · intro j hj
    have hj2 : j < 8 := by simpa [addT, u2, va_up, upd] using hj
    simpa [addT, u2, va_up, upd, stpN] using hK j hj2
  · refine EqX.up (EqX.up (EqX.up (EqX.up (EqX.rf) ?_) ?_) ?_) ?_ <;> decide
  · intro j9 hj9
    simp [va_up, upd, show j9 ≠ 0 by omega, show j9 ≠ 1 by omega, show j9 ≠ 2 by omega, show j9 ≠ 3 by omega, show j9 ≠ 15 by omega, show j9 ≠ 16 by omega, show j9 ≠ 17 by omega, show j9 ≠ 18 by omega, show j9 ≠ 19 by omega]
  · simp [va_up, upd]
theorem RM_addA {I : Nat → Nat → Int32} {T : Nat → Nat → Nat} {a : Nat} {I1 I2 : Nat → Nat → Int32} (h : RM I T) (e1 : va_up I 55 (upd (I 55) 18 (nI a)) = I1) (e2 : va_up I1 55 (upd (I1 55) 19 1) = I2) : RM I2 (addA T a) ∧ EqX [55] I I2 ∧ EqF I I2 ∧ I2 55 19 = 1 := by
  obtain ⟨⟨h1, h2, h3, h4, h5, h6, h7, h8⟩, hS, hL, hB, hK⟩ := h
  subst e1 e2
  refine ⟨⟨⟨?_, ?_, ?_, ?_, ?_, ?_, ?_, ?_⟩, ?_, ?_, ?_, ?_⟩, ?_, ?_, ?_⟩
  · simpa [addA, u2, va_up, upd] using h1
  · simpa [addA, u2, va_up, upd] using h2
  · simpa [addA, u2, va_up, upd] using h3
  · simpa [addA, u2, va_up, upd] using h4
  · simp [addA, u2, va_up, upd]
  · simpa [addA, u2, va_up, upd] using h6
  · simpa [addA, u2, va_up, upd] using h7
  · simpa [addA, u2, va_up, upd] using h8
  · intro j hj
    have hj2 : j < T 0 0 := by simpa [addA, u2, va_up, upd] using hj
    simpa [addA, u2, va_up, upd, stpN] using hS j hj2
  · intro j hj
    have hj2 : j < T 0 1 := by simpa [addA, u2, va_up, upd] using hj
    simpa [addA, u2, va_up, upd, stpN] using hL j hj2
  · intro j hj
    have hj2 : j < T 0 2 := by simpa [addA, u2, va_up, upd] using hj
    simpa [addA, u2, va_up, upd, stpN] using hB j hj2
  · intro j hj
    have hj2 : j < 8 := by simpa [addA, u2, va_up, upd] using hj
    simpa [addA, u2, va_up, upd, stpN] using hK j hj2
  · refine EqX.up (EqX.up (EqX.rf) ?_) ?_ <;> decide
  · intro j9 hj9
    simp [va_up, upd, show j9 ≠ 0 by omega, show j9 ≠ 1 by omega, show j9 ≠ 2 by omega, show j9 ≠ 3 by omega, show j9 ≠ 15 by omega, show j9 ≠ 16 by omega, show j9 ≠ 17 by omega, show j9 ≠ 18 by omega, show j9 ≠ 19 by omega]
  · simp [va_up, upd]
theorem RM_setS {I : Nat → Nat → Int32} {T : Nat → Nat → Nat} {s n : Nat} {I1 I2 : Nat → Nat → Int32} (h : RM I T) (e1 : va_up I 56 (upd (I 56) s (nI n)) = I1) (e2 : va_up I1 55 (upd (I1 55) 19 1) = I2) : RM I2 (setS T s n) ∧ EqX [55, 56] I I2 ∧ EqF I I2 ∧ I2 55 19 = 1 := by
  obtain ⟨⟨h1, h2, h3, h4, h5, h6, h7, h8⟩, hS, hL, hB, hK⟩ := h
  subst e1 e2
  refine ⟨⟨⟨?_, ?_, ?_, ?_, ?_, ?_, ?_, ?_⟩, ?_, ?_, ?_, ?_⟩, ?_, ?_, ?_⟩
  · simpa [setS, u2, va_up, upd] using h1
  · simpa [setS, u2, va_up, upd] using h2
  · simpa [setS, u2, va_up, upd] using h3
  · simpa [setS, u2, va_up, upd] using h4
  · simpa [setS, u2, va_up, upd] using h5
  · simpa [setS, u2, va_up, upd] using h6
  · simpa [setS, u2, va_up, upd] using h7
  · simpa [setS, u2, va_up, upd] using h8
  · intro j hj
    have hj2 : j < T 0 0 := by simpa [setS, u2, va_up, upd] using hj
    by_cases hne : j = s
    · subst hne
      have := hS _ hj2
      simp [setS, u2, va_up, upd, this]
    · simpa [setS, u2, va_up, upd, hne] using hS j hj2
  · intro j hj
    have hj2 : j < T 0 1 := by simpa [setS, u2, va_up, upd] using hj
    simpa [setS, u2, va_up, upd, stpN] using hL j hj2
  · intro j hj
    have hj2 : j < T 0 2 := by simpa [setS, u2, va_up, upd] using hj
    simpa [setS, u2, va_up, upd, stpN] using hB j hj2
  · intro j hj
    have hj2 : j < 8 := by simpa [setS, u2, va_up, upd] using hj
    simpa [setS, u2, va_up, upd, stpN] using hK j hj2
  · refine EqX.up (EqX.up (EqX.rf) ?_) ?_ <;> decide
  · intro j9 hj9
    simp [va_up, upd, show j9 ≠ 0 by omega, show j9 ≠ 1 by omega, show j9 ≠ 2 by omega, show j9 ≠ 3 by omega, show j9 ≠ 15 by omega, show j9 ≠ 16 by omega, show j9 ≠ 17 by omega, show j9 ≠ 18 by omega, show j9 ≠ 19 by omega]
  · simp [va_up, upd]
theorem RM_setB {I : Nat → Nat → Int32} {T : Nat → Nat → Nat} {b t : Nat} {I1 I2 : Nat → Nat → Int32} (h : RM I T) (e1 : va_up I 64 (upd (I 64) b (nI t)) = I1) (e2 : va_up I1 55 (upd (I1 55) 19 1) = I2) : RM I2 (setB T b t) ∧ EqX [55, 64] I I2 ∧ EqF I I2 ∧ I2 55 19 = 1 := by
  obtain ⟨⟨h1, h2, h3, h4, h5, h6, h7, h8⟩, hS, hL, hB, hK⟩ := h
  subst e1 e2
  refine ⟨⟨⟨?_, ?_, ?_, ?_, ?_, ?_, ?_, ?_⟩, ?_, ?_, ?_, ?_⟩, ?_, ?_, ?_⟩
  · simpa [setB, u2, va_up, upd] using h1
  · simpa [setB, u2, va_up, upd] using h2
  · simpa [setB, u2, va_up, upd] using h3
  · simpa [setB, u2, va_up, upd] using h4
  · simpa [setB, u2, va_up, upd] using h5
  · simpa [setB, u2, va_up, upd] using h6
  · simpa [setB, u2, va_up, upd] using h7
  · simpa [setB, u2, va_up, upd] using h8
  · intro j hj
    have hj2 : j < T 0 0 := by simpa [setB, u2, va_up, upd] using hj
    simpa [setB, u2, va_up, upd, stpN] using hS j hj2
  · intro j hj
    have hj2 : j < T 0 1 := by simpa [setB, u2, va_up, upd] using hj
    simpa [setB, u2, va_up, upd, stpN] using hL j hj2
  · intro j hj
    have hj2 : j < T 0 2 := by simpa [setB, u2, va_up, upd] using hj
    by_cases hne : j = b
    · subst hne
      have := hB _ hj2
      simp [setB, u2, va_up, upd, this]
    · simpa [setB, u2, va_up, upd, hne] using hB j hj2
  · intro j hj
    have hj2 : j < 8 := by simpa [setB, u2, va_up, upd] using hj
    simpa [setB, u2, va_up, upd, stpN] using hK j hj2
  · refine EqX.up (EqX.up (EqX.rf) ?_) ?_ <;> decide
  · intro j9 hj9
    simp [va_up, upd, show j9 ≠ 0 by omega, show j9 ≠ 1 by omega, show j9 ≠ 2 by omega, show j9 ≠ 3 by omega, show j9 ≠ 15 by omega, show j9 ≠ 16 by omega, show j9 ≠ 17 by omega, show j9 ≠ 18 by omega, show j9 ≠ 19 by omega]
  · simp [va_up, upd]
set_option maxHeartbeats 4000000 in
set_option maxRecDepth 100000 in
theorem c_X9_in (l : Launch) (D : va_G) (y : Nat → ClassId) {ws : va_W} (p0 p1 p2 : Int32) : Met l yX9_in [.code yX9_in cX9_in 3 (some .boolean)] ({ frames := 0, cells := 0, slots := 0, locals := 0 }) (va_Pc [.int p0, .int p1, .int p2] (PR D y ws)) (vp_Si (fun r => r = if ¬ p0 < p1 ∧ ¬ p2 < p0 then 1 else 0)) 0 0 (fun _ => False) := by
  refine Met.ofW (cc := cX9_in) (maxL := 3) (ret := (some .boolean)) (by decide) rfl ?_
  intro p e s m args below meth c s₁ B hml hv
  obtain ⟨rfl, hP, hO⟩ := hv
  have hx := B.exec
  have hb := B.bytes
  have hr := B.returns
  have hown : s.vm.findClass RX9 = some m.cls := findClass_of_methodNamed B.named
  have hlocks := B.notSynchronized
  have hK := hO.1
  have hts : ∀ w ∈ lw_E, w.before ([.int p0, .int p1, .int p2] : List Value).toArray s = true := fun w h => hO.2 w h _
  clear B
  have hl := lv_entry ([.int p0, .int p1, .int p2]) (n := 3) (Nat.le_of_ble_eq_true rfl)
  rw [lg_entry_eq]
  generalize (lg_sl ([.int p0, .int p1, .int p2]) ++ List.replicate (3 - (lg_sl ([.int p0, .int p1, .int p2])).length) Slot.unset).toArray = ls at hl ⊢
  have hl : lv_has ls 3 [(0, .int p0), (1, .int p1), (2, .int p2)] := hl
  refine lv_iload_n hx hb dX9_in_0 rfl (lv_at hl 0 rfl) ?_
  refine lv_iload_n hx hb dX9_in_1 rfl (lv_at hl 1 rfl) ?_
  refine lv_icmp_lt (tgt := 14) hx hb dX9_in_2 (by decide) (fun c2 => ?_) (fun c2 => ?_)
  · skip
    refine lv_iconst (v := 0) hx hb dX9_in_14 (by decide) ?_
    refine W.zret (v := 0) hx hb hr (by decide) (fun t ht hW => ⟨_, rfl, ?_, ht⟩) (fun _ h => nomatch h) dX9_in_15
    simp [*]
  · skip
    refine lv_iload_n hx hb dX9_in_5 rfl (lv_at hl 0 rfl) ?_
    refine lv_iload_n hx hb dX9_in_6 rfl (lv_at hl 2 rfl) ?_
    refine lv_icmp_gt (tgt := 14) hx hb dX9_in_7 (by decide) (fun c7 => ?_) (fun c7 => ?_)
    · skip
      refine lv_iconst (v := 0) hx hb dX9_in_14 (by decide) ?_
      refine W.zret (v := 0) hx hb hr (by decide) (fun t ht hW => ⟨_, rfl, ?_, ht⟩) (fun _ h => nomatch h) dX9_in_15
      simp [*]
    · skip
      refine lv_iconst (v := 1) hx hb dX9_in_10 (by decide) ?_
      refine lv_goto (tgt := 15) hx hb dX9_in_11 (by decide) ?_
      refine W.zret (v := 1) hx hb hr (by decide) (fun t ht hW => ⟨_, rfl, ?_, ht⟩) (fun _ h => nomatch h) dX9_in_15
      simp [*]
set_option maxHeartbeats 4000000 in
set_option maxRecDepth 100000 in
theorem c_X9_section (l : Launch) (D : va_G) (y : Nat → ClassId) (ad : Nat → Nat) (cap : Nat → Nat) (I : Nat → Nat → Int32) (J : Nat → Nat → Int64) (sz : Nat) {T : Nat → Nat → Nat} (hM : RM I T) (hW : WF T) (p1 p2 : Int32) {q0 : Nat} (hq0 : q0 ≤ 1) : Met l yX9_section [.code yX9_section cX9_section 4 (some .int)] ({ frames := 1, cells := 0, slots := 0, locals := 22 }) (va_Pc [.ref (ad 55), .int p1, .int p2, .int (nI q0)] (PW D y (Wd y ad cap I J) sz)) (va_Qi (fun (r : Int32) (u : St4) => ∃ I', u = (ad, cap, I', J) ∧ (secV T p1 p2 → r = nI (T 0 0) ∧ RM I' (addS T p1.toNatClampNeg p2.toNatClampNeg q0) ∧ EqX [55, 56, 57, 58] I I' ∧ EqF I I' ∧ I' 55 19 = 1) ∧ (¬ secV T p1 p2 → r = -1 ∧ I' = I)) (Aft D (Wt y) (Wd y ad cap I J) sz) (va_A (Wd y ad cap I J) sz)) 0 0 (va_A (Wd y ad cap I J) sz) := by
  refine Met.ofW (cc := cX9_section) (maxL := 4) (ret := (some .int)) (by decide) rfl ?_
  intro p e s m args below meth c s₁ B hml hv
  obtain ⟨rfl, rfl, hP, hD0, hO⟩ := hv
  have hx := B.exec
  have hb := B.bytes
  have hr := B.returns
  have hown : s.vm.findClass RX9 = some m.cls := findClass_of_methodNamed B.named
  have hlocks := B.notSynchronized
  have hK := hO.1
  have hts : ∀ w ∈ lw_E, w.before ([.ref (ad 55), .int p1, .int p2, .int (nI q0)] : List Value).toArray s = true := fun w h => hO.2 w h _
  clear B
  have hD := hD0.self (sz := s.heap.size)
  generalize hAe : va_A (Wd y ad cap I J) s.heap.size = A at hD ⊢
  have hA : ∀ q : Nat, s.heap.size ≤ q → A q := fun q h => by rw [← hAe]; exact Or.inr h
  have hS : va_S A s.heap s.heap [] := va_S.rf
  have hl := lv_entry ([.ref (ad 55), .int p1, .int p2, .int (nI q0)]) (n := 4) (Nat.le_of_ble_eq_true rfl)
  rw [lg_entry_eq]
  generalize (lg_sl ([.ref (ad 55), .int p1, .int p2, .int (nI q0)]) ++ List.replicate (4 - (lg_sl ([.ref (ad 55), .int p1, .int p2, .int (nI q0)])).length) Slot.unset).toArray = ls at hl ⊢
  have hl : lv_has ls 4 [(0, .ref (ad 55)), (1, .int p1), (2, .int p2), (3, .int (nI q0))] := hl
  have hW0 := hW
  obtain ⟨⟨w1, w2, w3, w4, w5, w6, w7⟩, wS, wL, wB, wK, wTk, wT0⟩ := hW
  refine lv_aload_n hx hb dX9_section_0 rfl (lv_at hl 0 rfl) ?_
  refine va_get (D := D) (T := TX9) (N := 51) hx hb hts jnX9 hown hK hP 55 (wd_55 y ad cap I J) rfl 0 (by decide) (hts _ fl_X9_105) (fun _ h9 => h9) rfl dX9_section_1 ?_
  refine lv_topi (fun v1 ev1 => ?_)
  obtain rfl : v1 = (nI (T 0 0)) := by
    rw [ev1]; exact hM.1.1
  refine lv_bipush (v := 40) hx hb dX9_section_4 (by decide) ?_
  refine lv_icmp_eq (tgt := 29) hx hb dX9_section_6 (by decide) (fun c6 => ?_) (fun c6 => ?_)
  · skip
    have c6 := (nI_eq (a := (T 0 0)) (b := 40) (by omega) (by omega)).mp c6
    refine lv_iconst (v := (-1)) hx hb dX9_section_29 (by decide) ?_
    refine W.iret (v := (-1)) hx hb hr (fun t ht hW => ⟨⟨_, (ad, cap, I, J), rfl, ?_, by rw [ht]; exact hP, by show va_D (va_A (Wd y ad cap I J) s.heap.size) _; rw [hAe]; exact hD⟩, hS.F ht⟩) hS.2.2 dX9_section_30
    refine ⟨I, rfl, fun h9 => absurd h9 (fun h8 => ?_), fun _ => ⟨rfl, rfl⟩⟩
    obtain ⟨g1, g2, g3⟩ := h8
    first | omega | exact c16 g2 | exact c26 g3
  · skip
    have c6 := mt (nI_eq (a := (T 0 0)) (b := 40) (by omega) (by omega)).mpr c6
    refine lv_iload_n hx hb dX9_section_9 rfl (lv_at hl 1 rfl) ?_
    refine lv_iconst (v := 0) hx hb dX9_section_10 (by decide) ?_
    refine lv_ldc (v := 1000000) hx hb hown (hts _ kc_X9_109) dX9_section_11 ?_
    refine rk_i (run_s (As := [.int p1, .int 0, .int 1000000]) (rest := []) hx hb hml hown hO.2 (c_X9_in l D y p1 0 1000000) k_X9_in ml_X9_110 ⟨rfl, rfl⟩ ⟨Nat.le_of_ble_eq_true rfl, Nat.le_of_ble_eq_true rfl⟩ (pre_SR hO hP) rfl hl.1 rfl (Nat.le_of_ble_eq_true rfl) dX9_section_13 ⟨(Nat.zero_le _), (Nat.zero_le _)⟩) (fun r13 er13 => ?_)
    try dsimp only at er13
    refine lv_if_eq (tgt := 29) hx hb dX9_section_16 (by decide) (fun c16 => ?_) (fun c16 => ?_)
    · skip
      have c16 := if01_z er13 c16
      refine lv_iconst (v := (-1)) hx hb dX9_section_29 (by decide) ?_
      refine W.iret (v := (-1)) hx hb hr (fun t ht hW => ⟨⟨_, (ad, cap, I, J), rfl, ?_, by rw [ht]; exact hP, by show va_D (va_A (Wd y ad cap I J) s.heap.size) _; rw [hAe]; exact hD⟩, hS.F ht⟩) hS.2.2 dX9_section_30
      refine ⟨I, rfl, fun h9 => absurd h9 (fun h8 => ?_), fun _ => ⟨rfl, rfl⟩⟩
      obtain ⟨g1, g2, g3⟩ := h8
      first | omega | exact c16 g2 | exact c26 g3
    · skip
      have c16 := if01_n er13 c16
      refine lv_iload_n hx hb dX9_section_19 rfl (lv_at hl 2 rfl) ?_
      refine lv_iconst (v := 0) hx hb dX9_section_20 (by decide) ?_
      refine lv_bipush (v := 12) hx hb dX9_section_21 (by decide) ?_
      refine rk_i (run_s (As := [.int p2, .int 0, .int 12]) (rest := []) hx hb hml hown hO.2 (c_X9_in l D y p2 0 12) k_X9_in ml_X9_110 ⟨rfl, rfl⟩ ⟨Nat.le_of_ble_eq_true rfl, Nat.le_of_ble_eq_true rfl⟩ (pre_SR hO hP) rfl hl.1 rfl (Nat.le_of_ble_eq_true rfl) dX9_section_23 ⟨(Nat.zero_le _), (Nat.zero_le _)⟩) (fun r23 er23 => ?_)
      try dsimp only at er23
      refine lv_if_ne (tgt := 31) hx hb dX9_section_26 (by decide) (fun c26 => ?_) (fun c26 => ?_)
      · skip
        have c26 := if01_n er23 c26
        have hV : secV T p1 p2 := ⟨by omega, c16, c26⟩
        obtain ⟨a1, ha⟩ := inR_nat (n := 1000000) rfl hV.2.1
        obtain ⟨k1, hk⟩ := inR_nat (n := 12) rfl hV.2.2
        generalize p1.toNatClampNeg = a at a1 ha ⊢
        generalize p2.toNatClampNeg = k at k1 hk ⊢
        clear er13 er23 c16 c26
        subst a1
        subst k1
        refine lv_aload_n hx hb dX9_section_31 rfl (lv_at hl 0 rfl) ?_
        refine va_get (D := D) (T := TX9) (N := 51) hx hb hts jnX9 hown hK hP 55 (wd_55 y ad cap I J) rfl 4 (by decide) (hts _ fl_X9_7) (fun _ h9 => h9) rfl dX9_section_32 ?_
        refine lv_aload_n hx hb dX9_section_35 rfl (lv_at hl 0 rfl) ?_
        refine va_get (D := D) (T := TX9) (N := 51) hx hb hts jnX9 hown hK hP 55 (wd_55 y ad cap I J) rfl 0 (by decide) (hts _ fl_X9_105) (fun _ h9 => h9) rfl dX9_section_36 ?_
        refine lv_topi (fun v36 ev36 => ?_)
        obtain rfl : v36 = (nI (T 0 0)) := by
          rw [ev36]; exact hM.1.1
        refine lv_iload_n hx hb dX9_section_39 rfl (lv_at hl 1 rfl) ?_
        refine va_iast (D := D) hx hb hK hP hD hS 56 0 (wd_56 y ad cap I J) rfl (vp_in_nI (by omega) (by omega)) dX9_section_40 (fun H locs hP hD hS => ?_)
        rw [nI_clamp (n := T 0 0) (by omega)] at hP hD
        rw [ws_56] at hP hD
        generalize eI40 : va_up I 56 (upd (I 56) (T 0 0) (nI a)) = I40 at hP hD
        refine lv_aload_n hx hb dX9_section_41 rfl (lv_at hl 0 rfl) ?_
        refine va_get (D := D) (T := TX9) (N := 51) hx hb hts jnX9 hown hK hP 55 (wd_55 y ad cap I40 J) rfl 5 (by decide) (hts _ fl_X9_13) (fun _ h9 => h9) rfl dX9_section_42 ?_
        refine lv_aload_n hx hb dX9_section_45 rfl (lv_at hl 0 rfl) ?_
        refine va_get (D := D) (T := TX9) (N := 51) hx hb hts jnX9 hown hK hP 55 (wd_55 y ad cap I40 J) rfl 0 (by decide) (hts _ fl_X9_105) (fun _ h9 => h9) rfl dX9_section_46 ?_
        refine lv_topi (fun v46 ev46 => ?_)
        obtain rfl : v46 = (nI (T 0 0)) := by
          rw [ev46, ← eI40]; simpa [va_up, upd] using hM.1.1
        refine lv_iload_n hx hb dX9_section_49 rfl (lv_at hl 2 rfl) ?_
        refine va_iast (D := D) hx hb hK hP hD hS 57 0 (wd_57 y ad cap I40 J) rfl (vp_in_nI (by omega) (by omega)) dX9_section_50 (fun H locs hP hD hS => ?_)
        rw [nI_clamp (n := T 0 0) (by omega)] at hP hD
        rw [ws_57] at hP hD
        generalize eI50 : va_up I40 57 (upd (I40 57) (T 0 0) (nI k)) = I50 at hP hD
        refine lv_aload_n hx hb dX9_section_51 rfl (lv_at hl 0 rfl) ?_
        refine va_get (D := D) (T := TX9) (N := 51) hx hb hts jnX9 hown hK hP 55 (wd_55 y ad cap I50 J) rfl 6 (by decide) (hts _ fl_X9_16) (fun _ h9 => h9) rfl dX9_section_52 ?_
        refine lv_aload_n hx hb dX9_section_55 rfl (lv_at hl 0 rfl) ?_
        refine va_get (D := D) (T := TX9) (N := 51) hx hb hts jnX9 hown hK hP 55 (wd_55 y ad cap I50 J) rfl 0 (by decide) (hts _ fl_X9_105) (fun _ h9 => h9) rfl dX9_section_56 ?_
        refine lv_topi (fun v56 ev56 => ?_)
        obtain rfl : v56 = (nI (T 0 0)) := by
          rw [ev56, ← eI50, ← eI40]; simpa [va_up, upd] using hM.1.1
        refine lv_iload_n hx hb dX9_section_59 rfl (lv_at hl 3 rfl) ?_
        refine va_zast (D := D) hx hb hK hP hD hS 58 2 (wd_58 y ad cap I50 J) rfl (vp_in_nI (by omega) (by omega)) dX9_section_60 (fun H locs hP hD hS => ?_)
        rw [nI_clamp (n := T 0 0) (by omega)] at hP hD
        rw [nar01 hq0] at hP hD
        rw [ws_58] at hP hD
        generalize eI60 : va_up I50 58 (upd (I50 58) (T 0 0) (nI q0)) = I60 at hP hD
        refine lv_aload_n hx hb dX9_section_61 rfl (lv_at hl 0 rfl) ?_
        refine lv_dup hx hb dX9_section_62 rfl ?_
        refine va_get (D := D) (T := TX9) (N := 51) hx hb hts jnX9 hown hK hP 55 (wd_55 y ad cap I60 J) rfl 3 (by decide) (hts _ fl_X9_114) (fun _ h9 => h9) rfl dX9_section_63 ?_
        refine lv_topi (fun v63 ev63 => ?_)
        obtain rfl : v63 = (nI (T 0 3)) := by
          rw [ev63, ← eI60, ← eI50, ← eI40]; simpa [va_up, upd] using hM.1.2.2.2.1
        refine lv_iload_n hx hb dX9_section_66 rfl (lv_at hl 3 rfl) ?_
        refine lv_if_eq (tgt := 74) hx hb dX9_section_67 (by decide) (fun c67 => ?_) (fun c67 => ?_)
        · skip
          obtain rfl := (nI_z (by omega)).mp c67
          refine lv_iconst (v := 0) hx hb dX9_section_74 (by decide) ?_
          refine lv_iadd hx hb dX9_section_75 ?_
          refine lv_topi (fun v75 ev75 => ?_)
          obtain rfl : v75 = (nI (T 0 3 + 0)) := by
            rw [ev75]; exact nI_add _ _
          refine va_put (D := D) (T := TX9) (N := 51) (v := .int (nI (T 0 3 + 0))) (ty := .int) hx hb hts jnX9 tyX9 tyX9_ok nmX9 hown hK hP hD hS 55 (wd_55 y ad cap I60 J) rfl 3 (by decide) (hts _ fl_X9_114) (fun _ h9 => h9) rfl (by decide +kernel) rfl rfl (Nat.le_of_ble_eq_true rfl) dX9_section_76 (fun H locs hP hD hS => ?_)
          rw [wp_55_3] at hP hD
          generalize eI76 : va_up I60 55 (upd (I60 55) 3 (nI (T 0 3 + 0))) = I76 at hP hD
          refine lv_aload_n hx hb dX9_section_79 rfl (lv_at hl 0 rfl) ?_
          refine lv_dup hx hb dX9_section_80 rfl ?_
          refine va_get (D := D) (T := TX9) (N := 51) hx hb hts jnX9 hown hK hP 55 (wd_55 y ad cap I76 J) rfl 0 (by decide) (hts _ fl_X9_105) (fun _ h9 => h9) rfl dX9_section_81 ?_
          refine lv_topi (fun v81 ev81 => ?_)
          obtain rfl : v81 = (nI (T 0 0)) := by
            rw [ev81, ← eI76, ← eI60, ← eI50, ← eI40]; simpa [va_up, upd] using hM.1.1
          refine lv_iconst (v := 1) hx hb dX9_section_84 (by decide) ?_
          refine lv_iadd hx hb dX9_section_85 ?_
          refine lv_topi (fun v85 ev85 => ?_)
          obtain rfl : v85 = (nI ((T 0 0) + 1)) := by rw [ev85, show (1 : Int32) = nI 1 from rfl, nI_add]
          refine va_put (D := D) (T := TX9) (N := 51) (v := .int (nI ((T 0 0) + 1))) (ty := .int) hx hb hts jnX9 tyX9 tyX9_ok nmX9 hown hK hP hD hS 55 (wd_55 y ad cap I76 J) rfl 0 (by decide) (hts _ fl_X9_105) (fun _ h9 => h9) rfl (by decide +kernel) rfl rfl (Nat.le_of_ble_eq_true rfl) dX9_section_86 (fun H locs hP hD hS => ?_)
          rw [wp_55_0] at hP hD
          generalize eI86 : va_up I76 55 (upd (I76 55) 0 (nI ((T 0 0) + 1))) = I86 at hP hD
          refine lv_aload_n hx hb dX9_section_89 rfl (lv_at hl 0 rfl) ?_
          refine lv_iconst (v := 1) hx hb dX9_section_90 (by decide) ?_
          refine va_put (D := D) (T := TX9) (N := 51) (v := .int 1) (ty := .boolean) hx hb hts jnX9 tyX9 tyX9_ok nmX9 hown hK hP hD hS 55 (wd_55 y ad cap I86 J) rfl 19 (by decide) (hts _ fl_X9_117) (fun _ h9 => h9) rfl (by decide +kernel) rfl rfl (Nat.le_of_ble_eq_true rfl) dX9_section_91 (fun H locs hP hD hS => ?_)
          rw [wp_55_19] at hP hD
          generalize eI91 : va_up I86 55 (upd (I86 55) 19 1) = I91 at hP hD
          refine lv_aload_n hx hb dX9_section_94 rfl (lv_at hl 0 rfl) ?_
          refine va_get (D := D) (T := TX9) (N := 51) hx hb hts jnX9 hown hK hP 55 (wd_55 y ad cap I91 J) rfl 0 (by decide) (hts _ fl_X9_105) (fun _ h9 => h9) rfl dX9_section_95 ?_
          refine lv_topi (fun v95 ev95 => ?_)
          obtain rfl : v95 = (nI (T 0 0 + 1)) := by
            rw [ev95, ← eI91, ← eI86]; simp [va_up, upd]
          refine lv_iconst (v := 1) hx hb dX9_section_98 (by decide) ?_
          refine lv_isub hx hb dX9_section_99 ?_
          refine lv_topi (fun v99 ev99 => ?_)
          obtain rfl : v99 = (nI (T 0 0)) := by
            rw [ev99, show (1 : Int32) = nI 1 from rfl, pk_sub (by omega)]; rfl
          refine W.iret (v := (nI (T 0 0))) hx hb hr (fun t ht hW => ⟨⟨_, (ad, cap, I91, J), rfl, ?_, by rw [ht]; exact hP, by show va_D (va_A (Wd y ad cap I J) s.heap.size) _; rw [hAe]; exact hD⟩, hS.F ht⟩) hS.2.2 dX9_section_100
          obtain ⟨g1, g2, g3, g4⟩ := RM_addS (a := a) (k := k) hM eI40 eI50 eI60 eI76 eI86 eI91
          exact ⟨_, rfl, fun _ => ⟨rfl, g1, g2, g3, g4⟩, fun h9 => absurd hV h9⟩
        · skip
          obtain rfl : q0 = 1 := by have := mt (nI_z (by omega)).mpr c67; omega
          refine lv_iconst (v := 1) hx hb dX9_section_70 (by decide) ?_
          refine lv_goto (tgt := 75) hx hb dX9_section_71 (by decide) ?_
          refine lv_iadd hx hb dX9_section_75 ?_
          refine lv_topi (fun v75 ev75 => ?_)
          obtain rfl : v75 = (nI (T 0 3 + 1)) := by
            rw [ev75]; exact nI_add _ _
          refine va_put (D := D) (T := TX9) (N := 51) (v := .int (nI (T 0 3 + 1))) (ty := .int) hx hb hts jnX9 tyX9 tyX9_ok nmX9 hown hK hP hD hS 55 (wd_55 y ad cap I60 J) rfl 3 (by decide) (hts _ fl_X9_114) (fun _ h9 => h9) rfl (by decide +kernel) rfl rfl (Nat.le_of_ble_eq_true rfl) dX9_section_76 (fun H locs hP hD hS => ?_)
          rw [wp_55_3] at hP hD
          generalize eI76 : va_up I60 55 (upd (I60 55) 3 (nI (T 0 3 + 1))) = I76 at hP hD
          refine lv_aload_n hx hb dX9_section_79 rfl (lv_at hl 0 rfl) ?_
          refine lv_dup hx hb dX9_section_80 rfl ?_
          refine va_get (D := D) (T := TX9) (N := 51) hx hb hts jnX9 hown hK hP 55 (wd_55 y ad cap I76 J) rfl 0 (by decide) (hts _ fl_X9_105) (fun _ h9 => h9) rfl dX9_section_81 ?_
          refine lv_topi (fun v81 ev81 => ?_)
          obtain rfl : v81 = (nI (T 0 0)) := by
            rw [ev81, ← eI76, ← eI60, ← eI50, ← eI40]; simpa [va_up, upd] using hM.1.1
          refine lv_iconst (v := 1) hx hb dX9_section_84 (by decide) ?_
          refine lv_iadd hx hb dX9_section_85 ?_
          refine lv_topi (fun v85 ev85 => ?_)
          obtain rfl : v85 = (nI ((T 0 0) + 1)) := by rw [ev85, show (1 : Int32) = nI 1 from rfl, nI_add]
          refine va_put (D := D) (T := TX9) (N := 51) (v := .int (nI ((T 0 0) + 1))) (ty := .int) hx hb hts jnX9 tyX9 tyX9_ok nmX9 hown hK hP hD hS 55 (wd_55 y ad cap I76 J) rfl 0 (by decide) (hts _ fl_X9_105) (fun _ h9 => h9) rfl (by decide +kernel) rfl rfl (Nat.le_of_ble_eq_true rfl) dX9_section_86 (fun H locs hP hD hS => ?_)
          rw [wp_55_0] at hP hD
          generalize eI86 : va_up I76 55 (upd (I76 55) 0 (nI ((T 0 0) + 1))) = I86 at hP hD
          refine lv_aload_n hx hb dX9_section_89 rfl (lv_at hl 0 rfl) ?_
          refine lv_iconst (v := 1) hx hb dX9_section_90 (by decide) ?_
          refine va_put (D := D) (T := TX9) (N := 51) (v := .int 1) (ty := .boolean) hx hb hts jnX9 tyX9 tyX9_ok nmX9 hown hK hP hD hS 55 (wd_55 y ad cap I86 J) rfl 19 (by decide) (hts _ fl_X9_117) (fun _ h9 => h9) rfl (by decide +kernel) rfl rfl (Nat.le_of_ble_eq_true rfl) dX9_section_91 (fun H locs hP hD hS => ?_)
          rw [wp_55_19] at hP hD
          generalize eI91 : va_up I86 55 (upd (I86 55) 19 1) = I91 at hP hD
          refine lv_aload_n hx hb dX9_section_94 rfl (lv_at hl 0 rfl) ?_
          refine va_get (D := D) (T := TX9) (N := 51) hx hb hts jnX9 hown hK hP 55 (wd_55 y ad cap I91 J) rfl 0 (by decide) (hts _ fl_X9_105) (fun _ h9 => h9) rfl dX9_section_95 ?_
          refine lv_topi (fun v95 ev95 => ?_)
          obtain rfl : v95 = (nI (T 0 0 + 1)) := by
            rw [ev95, ← eI91, ← eI86]; simp [va_up, upd]
          refine lv_iconst (v := 1) hx hb dX9_section_98 (by decide) ?_
          refine lv_isub hx hb dX9_section_99 ?_
          refine lv_topi (fun v99 ev99 => ?_)
          obtain rfl : v99 = (nI (T 0 0)) := by
            rw [ev99, show (1 : Int32) = nI 1 from rfl, pk_sub (by omega)]; rfl
          refine W.iret (v := (nI (T 0 0))) hx hb hr (fun t ht hW => ⟨⟨_, (ad, cap, I91, J), rfl, ?_, by rw [ht]; exact hP, by show va_D (va_A (Wd y ad cap I J) s.heap.size) _; rw [hAe]; exact hD⟩, hS.F ht⟩) hS.2.2 dX9_section_100
          obtain ⟨g1, g2, g3, g4⟩ := RM_addS (a := a) (k := k) hM eI40 eI50 eI60 eI76 eI86 eI91
          exact ⟨_, rfl, fun _ => ⟨rfl, g1, g2, g3, g4⟩, fun h9 => absurd hV h9⟩
      · skip
        have c26 := if01_z er23 c26
        refine lv_iconst (v := (-1)) hx hb dX9_section_29 (by decide) ?_
        refine W.iret (v := (-1)) hx hb hr (fun t ht hW => ⟨⟨_, (ad, cap, I, J), rfl, ?_, by rw [ht]; exact hP, by show va_D (va_A (Wd y ad cap I J) s.heap.size) _; rw [hAe]; exact hD⟩, hS.F ht⟩) hS.2.2 dX9_section_30
        refine ⟨I, rfl, fun h9 => absurd h9 (fun h8 => ?_), fun _ => ⟨rfl, rfl⟩⟩
        obtain ⟨g1, g2, g3⟩ := h8
        first | omega | exact c16 g2 | exact c26 g3
