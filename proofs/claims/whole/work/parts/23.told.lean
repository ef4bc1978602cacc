/-! TELLING: the state as numbers behind a call that did something -/
def EqX (S : List Nat) (I I' : Nat → Nat → Int32) : Prop := ∀ j, j ∉ S → I' j = I j
theorem EqX.rf {S : List Nat} {I : Nat → Nat → Int32} : EqX S I I := fun _ _ => rfl
theorem EqX.up {S : List Nat} {I I' : Nat → Nat → Int32} {k : Nat} {r : Nat → Int32} (h : EqX S I I') (hk : k ∈ S) : EqX S I (va_up I' k r) := fun j hj => by
  have : j ≠ k := fun e => hj (e ▸ hk)
  simp only [va_up, if_neg this]
  exact h j hj
theorem EqX.trans {S S' : List Nat} {I I' I'' : Nat → Nat → Int32} (h : EqX S I I') (h2 : EqX S' I' I'') (hs : ∀ k, k ∈ S → k ∈ S') : EqX S' I I'' := fun j hj => by
  rw [h2 j hj, h j (fun e => hj (hs j e))]
def u2 (T : Nat → Nat → Nat) (r j v : Nat) : Nat → Nat → Nat := va_up T r (va_up (T r) j v)
def addS (T : Nat → Nat → Nat) (a k q : Nat) : Nat → Nat → Nat := u2 (u2 (u2 (u2 (u2 T 1 (T 0 0) a) 2 (T 0 0) k) 3 (T 0 0) q) 0 3 (T 0 3 + q)) 0 0 (T 0 0 + 1)
def addL (T : Nat → Nat → Nat) (s o : Nat) : Nat → Nat → Nat := u2 (u2 (u2 T 4 (T 0 1) s) 5 (T 0 1) o) 0 1 (T 0 1 + 1)
def addK (T : Nat → Nat → Nat) (k p b : Nat) : Nat → Nat → Nat := u2 (u2 T 10 k p) 11 k b
def addB (T : Nat → Nat → Nat) (s o k t : Nat) : Nat → Nat → Nat := u2 (u2 (u2 (u2 (u2 T 6 (T 0 2) s) 7 (T 0 2) o) 8 (T 0 2) k) 9 (T 0 2) t) 0 2 (T 0 2 + 1)
def addT (T : Nat → Nat → Nat) (s a k : Nat) : Nat → Nat → Nat := u2 (u2 (u2 T 0 5 s) 0 6 a) 0 7 k
def addA (T : Nat → Nat → Nat) (a : Nat) : Nat → Nat → Nat := u2 T 0 4 a
def setS (T : Nat → Nat → Nat) (s n : Nat) : Nat → Nat → Nat := u2 T 1 s n
def setB (T : Nat → Nat → Nat) (b t : Nat) : Nat → Nat → Nat := u2 T 9 b t
set_option maxRecDepth 20000 in
theorem shl_pow : ∀ k, k < 13 → (1 : Int32) <<< (nI k &&& 31) = nI (2 ^ k) := by decide +kernel
theorem lt_s2 {n s : Nat} (h : s < n + 1) : s = n ∨ s < n := by omega
theorem RT1_addS {I : Nat → Nat → Int32} {T : Nat → Nat → Nat} {a k q : Nat} (h : RT1 I T) (hk : k ≤ 12) {I1 I2 I3 I4 I5 : Nat → Nat → Int32} (e1 : I1 = va_up I 3 (upd (I 3) (T 0 0) (nI a))) (e2 : I2 = va_up I1 4 (upd (I1 4) (T 0 0) ((1 : Int32) <<< (nI k &&& 31)))) (e3 : I3 = va_up I2 5 (upd (I2 5) (T 0 0) (nI q))) (e4 : (q = 0 ∧ I4 = I3) ∨ (q = 1 ∧ I4 = va_up I3 2 (upd (I3 2) 1 (nI (T 0 3 + 1))))) (e5 : I5 = va_up I4 2 (upd (I4 2) 0 (nI (T 0 0 + 1)))) : RT1 I5 (addS T a k q) := by
  obtain ⟨⟨h1, h2, h3, h4, h5, h6, h7, h8⟩, hS, hL, hB, hK⟩ := h
  rw [shl_pow k (by omega)] at e2
  subst e1 e2 e3 e5
  rcases e4 with ⟨rfl, rfl⟩ | ⟨rfl, rfl⟩
  all_goals
    refine ⟨⟨?_, ?_, ?_, ?_, ?_, ?_, ?_, ?_⟩, ?_, ?_, ?_, ?_⟩
    · simp [addS, u2, va_up, upd]
    · simpa [addS, u2, va_up, upd] using h2
    · simpa [addS, u2, va_up, upd] using h3
    · simp [addS, u2, va_up, upd, h4]
    · simpa [addS, u2, va_up, upd] using h5
    · simpa [addS, u2, va_up, upd] using h6
    · simpa [addS, u2, va_up, upd] using h7
    · simpa [addS, u2, va_up, upd] using h8
    · intro s hs
      have hs2 : s < T 0 0 + 1 := by simpa [addS, u2, va_up] using hs
      rcases lt_s2 hs2 with rfl | hs3
      · simp [addS, u2, va_up, upd]
      · have hne : s ≠ T 0 0 := by omega
        simpa [addS, u2, va_up, upd, hne] using hS s hs3
    · intro s hs
      have hs2 : s < T 0 1 := by simpa [addS, u2, va_up] using hs
      simpa [addS, u2, va_up, upd] using hL s hs2
    · intro s hs
      have hs2 : s < T 0 2 := by simpa [addS, u2, va_up] using hs
      simpa [addS, u2, va_up, upd] using hB s hs2
    · intro s hs
      simpa [addS, u2, va_up, upd] using hK s hs
