theorem RT1_addL {I : Nat → Nat → Int32} {T : Nat → Nat → Nat} {s f : Nat} {I1 I2 I3 : Nat → Nat → Int32} (h : RT1 I T) (e1 : I1 = va_up I 7 (upd (I 7) (T 0 1) (nI s))) (e2 : I2 = va_up I1 8 (upd (I1 8) (T 0 1) (nI f))) (e3 : I3 = va_up I2 6 (upd (I2 6) 0 (nI (T 0 1 + 1)))) : RT1 I3 (addL T s f) := by
  obtain ⟨⟨h1, h2, h3, h4, h5, h6, h7, h8⟩, hS, hL, hB, hK⟩ := h
  subst e1 e2 e3
  refine ⟨⟨?_, ?_, ?_, ?_, ?_, ?_, ?_, ?_⟩, ?_, ?_, ?_, ?_⟩
  · simpa [addL, u2, va_up, upd] using h1
  · simp [addL, u2, va_up, upd]
  · simpa [addL, u2, va_up, upd] using h3
  · simpa [addL, u2, va_up, upd] using h4
  · simpa [addL, u2, va_up, upd] using h5
  · simpa [addL, u2, va_up, upd] using h6
  · simpa [addL, u2, va_up, upd] using h7
  · simpa [addL, u2, va_up, upd] using h8
  · intro j hj
    have hj2 : j < T 0 0 := by simpa [addL, u2, va_up, upd] using hj
    simpa [addL, u2, va_up, upd] using hS j hj2
  · intro j hj
    have hj2 : j < T 0 1 + 1 := by simpa [addL, u2, va_up, upd] using hj
    rcases lt_s2 hj2 with rfl | hj3
    · simp [addL, u2, va_up, upd]
    · have hne : j ≠ T 0 1 := by omega
      simpa [addL, u2, va_up, upd, hne] using hL j hj3
  · intro j hj
    have hj2 : j < T 0 2 := by simpa [addL, u2, va_up, upd] using hj
    simpa [addL, u2, va_up, upd] using hB j hj2
  · intro j hj
    have hj2 : j < 8 := by simpa [addL, u2, va_up, upd] using hj
    simpa [addL, u2, va_up, upd] using hK j hj2
theorem RT1_addB {I : Nat → Nat → Int32} {T : Nat → Nat → Nat} {s f k t : Nat} {I1 I2 I3 I4 I5 : Nat → Nat → Int32} (h : RT1 I T) (e1 : I1 = va_up I 13 (upd (I 13) (T 0 2) (nI s))) (e2 : I2 = va_up I1 14 (upd (I1 14) (T 0 2) (nI f))) (e3 : I3 = va_up I2 15 (upd (I2 15) (T 0 2) (nI k))) (e4 : I4 = va_up I3 16 (upd (I3 16) (T 0 2) (nI t))) (e5 : I5 = va_up I4 12 (upd (I4 12) 0 (nI (T 0 2 + 1)))) : RT1 I5 (addB T s f k t) := by
  obtain ⟨⟨h1, h2, h3, h4, h5, h6, h7, h8⟩, hS, hL, hB, hK⟩ := h
  subst e1 e2 e3 e4 e5
  refine ⟨⟨?_, ?_, ?_, ?_, ?_, ?_, ?_, ?_⟩, ?_, ?_, ?_, ?_⟩
  · simpa [addB, u2, va_up, upd] using h1
  · simpa [addB, u2, va_up, upd] using h2
  · simp [addB, u2, va_up, upd]
  · simpa [addB, u2, va_up, upd] using h4
  · simpa [addB, u2, va_up, upd] using h5
  · simpa [addB, u2, va_up, upd] using h6
  · simpa [addB, u2, va_up, upd] using h7
  · simpa [addB, u2, va_up, upd] using h8
  · intro j hj
    have hj2 : j < T 0 0 := by simpa [addB, u2, va_up, upd] using hj
    simpa [addB, u2, va_up, upd] using hS j hj2
  · intro j hj
    have hj2 : j < T 0 1 := by simpa [addB, u2, va_up, upd] using hj
    simpa [addB, u2, va_up, upd] using hL j hj2
  · intro j hj
    have hj2 : j < T 0 2 + 1 := by simpa [addB, u2, va_up, upd] using hj
    rcases lt_s2 hj2 with rfl | hj3
    · simp [addB, u2, va_up, upd]
    · have hne : j ≠ T 0 2 := by omega
      simpa [addB, u2, va_up, upd, hne] using hB j hj3
  · intro j hj
    have hj2 : j < 8 := by simpa [addB, u2, va_up, upd] using hj
    simpa [addB, u2, va_up, upd] using hK j hj2
theorem RT1_addK {I : Nat → Nat → Int32} {T : Nat → Nat → Nat} {k p b : Nat} {I1 I2 : Nat → Nat → Int32} (h : RT1 I T) (e1 : I1 = va_up I 10 (upd (I 10) k (nI p))) (e2 : I2 = va_up I1 11 (upd (I1 11) k (nI b))) : RT1 I2 (addK T k p b) := by
  obtain ⟨⟨h1, h2, h3, h4, h5, h6, h7, h8⟩, hS, hL, hB, hK⟩ := h
  subst e1 e2
  refine ⟨⟨?_, ?_, ?_, ?_, ?_, ?_, ?_, ?_⟩, ?_, ?_, ?_, ?_⟩
  · simpa [addK, u2, va_up, upd] using h1
  · simpa [addK, u2, va_up, upd] using h2
  · simpa [addK, u2, va_up, upd] using h3
  · simpa [addK, u2, va_up, upd] using h4
  · simpa [addK, u2, va_up, upd] using h5
  · simpa [addK, u2, va_up, upd] using h6
  · simpa [addK, u2, va_up, upd] using h7
  · simpa [addK, u2, va_up, upd] using h8
  · intro j hj
    have hj2 : j < T 0 0 := by simpa [addK, u2, va_up, upd] using hj
    simpa [addK, u2, va_up, upd] using hS j hj2
  · intro j hj
    have hj2 : j < T 0 1 := by simpa [addK, u2, va_up, upd] using hj
    simpa [addK, u2, va_up, upd] using hL j hj2
  · intro j hj
    have hj2 : j < T 0 2 := by simpa [addK, u2, va_up, upd] using hj
    simpa [addK, u2, va_up, upd] using hB j hj2
  · intro j hj
    have hj2 : j < 8 := hj
    by_cases hne : j = k
    · subst hne
      simp [addK, u2, va_up, upd]
    · simpa [addK, u2, va_up, upd, hne] using hK j hj2
theorem RT1_addT {I : Nat → Nat → Int32} {T : Nat → Nat → Nat} {s a k : Nat} (ha : a ≤ 6) {I1 I2 I3 : Nat → Nat → Int32} (h : RT1 I T) (e1 : I1 = va_up I 1 (upd (I 1) 5 (nI s))) (e2 : I2 = va_up I1 1 (upd (I1 1) 6 ((1 : Int32) <<< (nI a &&& 31)))) (e3 : I3 = va_up I2 1 (upd (I2 1) 7 (nI k))) : RT1 I3 (addT T s a k) := by
  obtain ⟨⟨h1, h2, h3, h4, h5, h6, h7, h8⟩, hS, hL, hB, hK⟩ := h
  rw [shl_pow a (by omega)] at e2
  subst e1 e2 e3
  refine ⟨⟨?_, ?_, ?_, ?_, ?_, ?_, ?_, ?_⟩, ?_, ?_, ?_, ?_⟩
  · simpa [addT, u2, va_up, upd] using h1
  · simpa [addT, u2, va_up, upd] using h2
  · simpa [addT, u2, va_up, upd] using h3
  · simpa [addT, u2, va_up, upd] using h4
  · simpa [addT, u2, va_up, upd] using h5
  · simp [addT, u2, va_up, upd]
  · simp [addT, u2, va_up, upd]
  · simp [addT, u2, va_up, upd]
  · intro j hj
    have hj2 : j < T 0 0 := by simpa [addT, u2, va_up, upd] using hj
    simpa [addT, u2, va_up, upd] using hS j hj2
  · intro j hj
    have hj2 : j < T 0 1 := by simpa [addT, u2, va_up, upd] using hj
    simpa [addT, u2, va_up, upd] using hL j hj2
  · intro j hj
    have hj2 : j < T 0 2 := by simpa [addT, u2, va_up, upd] using hj
    simpa [addT, u2, va_up, upd] using hB j hj2
  · intro j hj
    have hj2 : j < 8 := by simpa [addT, u2, va_up, upd] using hj
    simpa [addT, u2, va_up, upd] using hK j hj2
theorem RT1_addA {I : Nat → Nat → Int32} {T : Nat → Nat → Nat} {a : Nat} {I1 : Nat → Nat → Int32} (h : RT1 I T) (e1 : I1 = va_up I 1 (upd (I 1) 4 (nI a))) : RT1 I1 (addA T a) := by
  obtain ⟨⟨h1, h2, h3, h4, h5, h6, h7, h8⟩, hS, hL, hB, hK⟩ := h
  subst e1
  refine ⟨⟨?_, ?_, ?_, ?_, ?_, ?_, ?_, ?_⟩, ?_, ?_, ?_, ?_⟩
  · simpa [addA, u2, va_up, upd] using h1
  · simpa [addA, u2, va_up, upd] using h2
  · simpa [addA, u2, va_up, upd] using h3
  · simpa [addA, u2, va_up, upd] using h4
  · simp [addA, u2, va_up, upd]
  · simpa [addA, u2, va_up, upd] using h6
  · simpa [addA, u2, va_up, upd] using h7
  · simpa [addA, u2, va_up, upd] using h8
  · intro j hj
    have hj2 : j < T 0 0 := by simpa [addA, u2, va_up, upd] using hj
    simpa [addA, u2, va_up, upd] using hS j hj2
  · intro j hj
    have hj2 : j < T 0 1 := by simpa [addA, u2, va_up, upd] using hj
    simpa [addA, u2, va_up, upd] using hL j hj2
  · intro j hj
    have hj2 : j < T 0 2 := by simpa [addA, u2, va_up, upd] using hj
    simpa [addA, u2, va_up, upd] using hB j hj2
  · intro j hj
    have hj2 : j < 8 := by simpa [addA, u2, va_up, upd] using hj
    simpa [addA, u2, va_up, upd] using hK j hj2
theorem RT1_setS {I : Nat → Nat → Int32} {T : Nat → Nat → Nat} {s n : Nat} {I1 : Nat → Nat → Int32} (h : RT1 I T) (e1 : I1 = va_up I 3 (upd (I 3) s (nI n))) : RT1 I1 (setS T s n) := by
  obtain ⟨⟨h1, h2, h3, h4, h5, h6, h7, h8⟩, hS, hL, hB, hK⟩ := h
  subst e1
  refine ⟨⟨?_, ?_, ?_, ?_, ?_, ?_, ?_, ?_⟩, ?_, ?_, ?_, ?_⟩
  · simpa [setS, u2, va_up, upd] using h1
  · simpa [setS, u2, va_up, upd] using h2
  · simpa [setS, u2, va_up, upd] using h3
  · simpa [setS, u2, va_up, upd] using h4
  · simpa [setS, u2, va_up, upd] using h5
  · simpa [setS, u2, va_up, upd] using h6
  · simpa [setS, u2, va_up, upd] using h7
  · simpa [setS, u2, va_up, upd] using h8
  · intro j hj
    have hj2 : j < T 0 0 := by simpa [setS, u2, va_up, upd] using hj
    by_cases hne : j = s
    · subst hne
      have := hS _ hj2
      simp [setS, u2, va_up, upd, this]
    · simpa [setS, u2, va_up, upd, hne] using hS j hj2
  · intro j hj
    have hj2 : j < T 0 1 := by simpa [setS, u2, va_up, upd] using hj
    simpa [setS, u2, va_up, upd] using hL j hj2
  · intro j hj
    have hj2 : j < T 0 2 := by simpa [setS, u2, va_up, upd] using hj
    simpa [setS, u2, va_up, upd] using hB j hj2
  · intro j hj
    have hj2 : j < 8 := by simpa [setS, u2, va_up, upd] using hj
    simpa [setS, u2, va_up, upd] using hK j hj2
theorem RT1_setB {I : Nat → Nat → Int32} {T : Nat → Nat → Nat} {b t : Nat} {I1 : Nat → Nat → Int32} (h : RT1 I T) (e1 : I1 = va_up I 16 (upd (I 16) b (nI t))) : RT1 I1 (setB T b t) := by
  obtain ⟨⟨h1, h2, h3, h4, h5, h6, h7, h8⟩, hS, hL, hB, hK⟩ := h
  subst e1
  refine ⟨⟨?_, ?_, ?_, ?_, ?_, ?_, ?_, ?_⟩, ?_, ?_, ?_, ?_⟩
  · simpa [setB, u2, va_up, upd] using h1
  · simpa [setB, u2, va_up, upd] using h2
  · simpa [setB, u2, va_up, upd] using h3
  · simpa [setB, u2, va_up, upd] using h4
  · simpa [setB, u2, va_up, upd] using h5
  · simpa [setB, u2, va_up, upd] using h6
  · simpa [setB, u2, va_up, upd] using h7
  · simpa [setB, u2, va_up, upd] using h8
  · intro j hj
    have hj2 : j < T 0 0 := by simpa [setB, u2, va_up, upd] using hj
    simpa [setB, u2, va_up, upd] using hS j hj2
  · intro j hj
    have hj2 : j < T 0 1 := by simpa [setB, u2, va_up, upd] using hj
    simpa [setB, u2, va_up, upd] using hL j hj2
  · intro j hj
    have hj2 : j < T 0 2 := by simpa [setB, u2, va_up, upd] using hj
    by_cases hne : j = b
    · subst hne
      have := hB _ hj2
      simp [setB, u2, va_up, upd, this]
    · simpa [setB, u2, va_up, upd, hne] using hB j hj2
  · intro j hj
    have hj2 : j < 8 := by simpa [setB, u2, va_up, upd] using hj
    simpa [setB, u2, va_up, upd] using hK j hj2
theorem WF_addS {T : Nat → Nat → Nat} {a k q : Nat} (h : WF T) (h1 : T 0 0 < 40) (h2 : a ≤ 1000000) (h3 : k ≤ 12) (h4 : q ≤ 1) (h5 : T 0 3 ≤ T 0 0) : WF (addS T a k q) := by
  obtain ⟨⟨w1, w2, w3, w4, w5, w6, w7⟩, wS, wL, wB, wK, wTk, wT0⟩ := h
  refine ⟨⟨?_, ?_, ?_, ?_, ?_, ?_, ?_⟩, ?_, ?_, ?_, ?_, ?_, ?_⟩
  · simp [addS, u2, va_up]; omega
  · simpa [addS, u2, va_up] using w2
  · simpa [addS, u2, va_up] using w3
  · simp [addS, u2, va_up]; omega
  · simpa [addS, u2, va_up] using w5
  · simpa [addS, u2, va_up] using w6
  · simpa [addS, u2, va_up] using w7
  · intro s hs
    have hs2 : s < T 0 0 + 1 := by simpa [addS, u2, va_up] using hs
    rcases lt_s2 hs2 with rfl | hs3
    · simp [addS, u2, va_up]; omega
    · have hne : s ≠ T 0 0 := by omega
      simpa [addS, u2, va_up, hne] using wS s hs3
  · intro l hl
    have hl2 : l < T 0 1 := by simpa [addS, u2, va_up] using hl
    obtain ⟨g1, g2⟩ := wL l hl2
    have hne : T 4 l ≠ T 0 0 := by omega
    simp [addS, u2, va_up, hne]
    omega
  · intro b hb
    have hb2 : b < T 0 2 := by simpa [addS, u2, va_up] using hb
    obtain ⟨g1, g2, g3, g4, g5⟩ := wB b hb2
    have hne : T 6 b ≠ T 0 0 := by omega
    simp [addS, u2, va_up, hne]
    omega
  · intro k hk
    simpa [addS, u2, va_up] using wK k hk
  · simpa [addS, u2, va_up] using wTk
  · simpa [addS, u2, va_up] using wT0
theorem WF_addL {T : Nat → Nat → Nat} {s f : Nat} (h : WF T) (h1 : T 0 1 < 60) (h2 : s < T 0 0) (h3 : f ≤ T 1 s) : WF (addL T s f) := by
  obtain ⟨⟨w1, w2, w3, w4, w5, w6, w7⟩, wS, wL, wB, wK, wTk, wT0⟩ := h
  refine ⟨⟨?_, ?_, ?_, ?_, ?_, ?_, ?_⟩, ?_, ?_, ?_, ?_, ?_, ?_⟩
  · simpa [addL, u2, va_up] using w1
  · simp [addL, u2, va_up]; omega
  · simpa [addL, u2, va_up] using w3
  · simpa [addL, u2, va_up] using w4
  · simpa [addL, u2, va_up] using w5
  · simpa [addL, u2, va_up] using w6
  · simpa [addL, u2, va_up] using w7
  · simpa [addL, u2, va_up] using wS
  · intro l hl
    have hl2 : l < T 0 1 + 1 := by simpa [addL, u2, va_up] using hl
    rcases lt_s2 hl2 with rfl | hl3
    · simp [addL, u2, va_up]; omega
    · have hne : l ≠ T 0 1 := by omega
      simpa [addL, u2, va_up, hne] using wL l hl3
  · intro b hb
    have hb2 : b < T 0 2 := by simpa [addL, u2, va_up] using hb
    obtain ⟨g1, g2, g3, g4, g5⟩ := wB b hb2
    simp [addL, u2, va_up]
    omega
  · simpa [addL, u2, va_up] using wK
  · simpa [addL, u2, va_up] using wTk
  · simpa [addL, u2, va_up] using wT0
theorem WF_addB {T : Nat → Nat → Nat} {s f k t : Nat} (h : WF T) (h1 : T 0 2 < 200) (h2 : s < T 0 0) (h3 : f < T 1 s) (h4 : k < 8) (h5 : 1 ≤ T 11 k) (h6 : t < T 0 1) : WF (addB T s f k t) := by
  obtain ⟨⟨w1, w2, w3, w4, w5, w6, w7⟩, wS, wL, wB, wK, wTk, wT0⟩ := h
  refine ⟨⟨?_, ?_, ?_, ?_, ?_, ?_, ?_⟩, ?_, ?_, ?_, ?_, ?_, ?_⟩
  · simpa [addB, u2, va_up] using w1
  · simpa [addB, u2, va_up] using w2
  · simp [addB, u2, va_up]; omega
  · simpa [addB, u2, va_up] using w4
  · simpa [addB, u2, va_up] using w5
  · simpa [addB, u2, va_up] using w6
  · simpa [addB, u2, va_up] using w7
  · simpa [addB, u2, va_up] using wS
  · simpa [addB, u2, va_up] using wL
  · intro l hl
    have hl2 : l < T 0 2 + 1 := by simpa [addB, u2, va_up] using hl
    rcases lt_s2 hl2 with rfl | hl3
    · simp [addB, u2, va_up]; omega
    · have hne : l ≠ T 0 2 := by omega
      simpa [addB, u2, va_up, hne] using wB l hl3
  · simpa [addB, u2, va_up] using wK
  · simpa [addB, u2, va_up] using wTk
  · simpa [addB, u2, va_up] using wT0
theorem WF_addK {T : Nat → Nat → Nat} {k p b : Nat} (h : WF T) (h2 : p ≤ 3) (h3 : 4 ≤ b) (h4 : b ≤ 30) : WF (addK T k p b) := by
  obtain ⟨⟨w1, w2, w3, w4, w5, w6, w7⟩, wS, wL, wB, wK, wTk, wT0⟩ := h
  refine ⟨⟨?_, ?_, ?_, ?_, ?_, ?_, ?_⟩, ?_, ?_, ?_, ?_, ?_, ?_⟩
  · simpa [addK, u2, va_up] using w1
  · simpa [addK, u2, va_up] using w2
  · simpa [addK, u2, va_up] using w3
  · simpa [addK, u2, va_up] using w4
  · simpa [addK, u2, va_up] using w5
  · simpa [addK, u2, va_up] using w6
  · simpa [addK, u2, va_up] using w7
  · simpa [addK, u2, va_up] using wS
  · simpa [addK, u2, va_up] using wL
  · intro l hl
    have hl2 : l < T 0 2 := by simpa [addK, u2, va_up] using hl
    obtain ⟨g1, g2, g3, g4, g5⟩ := wB l hl2
    by_cases hne : T 8 l = k
    · simp [addK, u2, va_up, hne]; omega
    · simp [addK, u2, va_up, hne]; omega
  · intro j hj
    have := wK j hj
    by_cases hne : j = k
    · simp [addK, u2, va_up, hne]; omega
    · simp [addK, u2, va_up, hne]; omega
  · intro hz
    have := wTk (by simpa [addK, u2, va_up] using hz)
    by_cases hne : T 0 7 = k
    · simp [addK, u2, va_up, hne]; omega
    · simp [addK, u2, va_up, hne]; omega
  · simpa [addK, u2, va_up] using wT0
theorem WF_addT {T : Nat → Nat → Nat} {s a k : Nat} (h : WF T) (h1 : 1 ≤ s) (h2 : s ≤ 64) (h3 : a ≤ 6) (h4 : k < 8) (h5 : 1 ≤ T 11 k) : WF (addT T s a k) := by
  obtain ⟨⟨w1, w2, w3, w4, w5, w6, w7⟩, wS, wL, wB, wK, wTk, wT0⟩ := h
  refine ⟨⟨?_, ?_, ?_, ?_, ?_, ?_, ?_⟩, ?_, ?_, ?_, ?_, ?_, ?_⟩
  · simpa [addT, u2, va_up] using w1
  · simpa [addT, u2, va_up] using w2
  · simpa [addT, u2, va_up] using w3
  · simpa [addT, u2, va_up] using w4
  · simpa [addT, u2, va_up] using w5
  · simp [addT, u2, va_up]; omega
  · simp [addT, u2, va_up]; omega
  · simpa [addT, u2, va_up] using wS
  · simpa [addT, u2, va_up] using wL
  · simpa [addT, u2, va_up] using wB
  · simpa [addT, u2, va_up] using wK
  · intro _
    simp [addT, u2, va_up]; omega
  · intro hz
    simp [addT, u2, va_up] at hz
    omega
theorem WF_addA {T : Nat → Nat → Nat} {a : Nat} (h : WF T) (h1 : a < 2 ^ 31) : WF (addA T a) := by
  obtain ⟨⟨w1, w2, w3, w4, w5, w6, w7⟩, wS, wL, wB, wK, wTk, wT0⟩ := h
  refine ⟨⟨?_, ?_, ?_, ?_, ?_, ?_, ?_⟩, ?_, ?_, ?_, ?_, ?_, ?_⟩
  · simpa [addA, u2, va_up] using w1
  · simpa [addA, u2, va_up] using w2
  · simpa [addA, u2, va_up] using w3
  · simpa [addA, u2, va_up] using w4
  · simp [addA, u2, va_up]; omega
  · simpa [addA, u2, va_up] using w6
  · simpa [addA, u2, va_up] using w7
  · simpa [addA, u2, va_up] using wS
  · simpa [addA, u2, va_up] using wL
  · simpa [addA, u2, va_up] using wB
  · simpa [addA, u2, va_up] using wK
  · simpa [addA, u2, va_up] using wTk
  · simpa [addA, u2, va_up] using wT0
theorem WF_setS {T : Nat → Nat → Nat} {s n : Nat} (h : WF T) (h1 : n ≤ 1000000) (h2 : ∀ l, l < T 0 1 → T 4 l = s → T 5 l ≤ n) (h3 : ∀ b, b < T 0 2 → T 6 b = s → T 7 b < n) : WF (setS T s n) := by
  obtain ⟨⟨w1, w2, w3, w4, w5, w6, w7⟩, wS, wL, wB, wK, wTk, wT0⟩ := h
  refine ⟨⟨?_, ?_, ?_, ?_, ?_, ?_, ?_⟩, ?_, ?_, ?_, ?_, ?_, ?_⟩
  · simpa [setS, u2, va_up] using w1
  · simpa [setS, u2, va_up] using w2
  · simpa [setS, u2, va_up] using w3
  · simpa [setS, u2, va_up] using w4
  · simpa [setS, u2, va_up] using w5
  · simpa [setS, u2, va_up] using w6
  · simpa [setS, u2, va_up] using w7
  · intro j hj
    have := wS j (by simpa [setS, u2, va_up] using hj)
    by_cases hne : j = s
    · simp [setS, u2, va_up, hne] at *; omega
    · simp [setS, u2, va_up, hne]; omega
  · intro l hl
    have hl2 : l < T 0 1 := by simpa [setS, u2, va_up] using hl
    have g := wL l hl2
    by_cases hne : T 4 l = s
    · have := h2 l hl2 hne
      rw [hne] at g
      simp [setS, u2, va_up, hne]; omega
    · simp [setS, u2, va_up, hne]; omega
  · intro b hb
    have hb2 : b < T 0 2 := by simpa [setS, u2, va_up] using hb
    have g := wB b hb2
    by_cases hne : T 6 b = s
    · have := h3 b hb2 hne
      rw [hne] at g
      simp [setS, u2, va_up, hne]; omega
    · simp [setS, u2, va_up, hne]; omega
  · simpa [setS, u2, va_up] using wK
  · simpa [setS, u2, va_up] using wTk
  · simpa [setS, u2, va_up] using wT0
theorem WF_setB {T : Nat → Nat → Nat} {b t : Nat} (h : WF T) (h1 : t < T 0 1) : WF (setB T b t) := by
  obtain ⟨⟨w1, w2, w3, w4, w5, w6, w7⟩, wS, wL, wB, wK, wTk, wT0⟩ := h
  refine ⟨⟨?_, ?_, ?_, ?_, ?_, ?_, ?_⟩, ?_, ?_, ?_, ?_, ?_, ?_⟩
  · simpa [setB, u2, va_up] using w1
  · simpa [setB, u2, va_up] using w2
  · simpa [setB, u2, va_up] using w3
  · simpa [setB, u2, va_up] using w4
  · simpa [setB, u2, va_up] using w5
  · simpa [setB, u2, va_up] using w6
  · simpa [setB, u2, va_up] using w7
  · simpa [setB, u2, va_up] using wS
  · simpa [setB, u2, va_up] using wL
  · intro j hj
    have hj2 : j < T 0 2 := by simpa [setB, u2, va_up] using hj
    have g := wB j hj2
    by_cases hne : j = b
    · subst hne
      simp [setB, u2, va_up]; omega
    · simp [setB, u2, va_up, hne]; omega
  · simpa [setB, u2, va_up] using wK
  · simpa [setB, u2, va_up] using wTk
  · simpa [setB, u2, va_up] using wT0
