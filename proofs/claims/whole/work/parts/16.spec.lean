/-! THE STATE AS NUMBERS. T 0: how many sections, labels, branches, pools; base; the thunks' size, power, kind. T 1 s size, T 2 s power, T 3 s pool; T 4 l section, T 5 l offset; T 6 b section, T 7 b offset, T 8 b kind, T 9 b label; T 10 k power of the step, T 11 k bits (0: not told) -/
abbrev St4 : Type := (Nat → Nat) × (Nat → Nat) × (Nat → Nat → Int32) × (Nat → Nat → Int64)
abbrev Wt (y : Nat → ClassId) (u : St4) : va_W := Wd y u.1 u.2.1 u.2.2.1 u.2.2.2
def WF (T : Nat → Nat → Nat) : Prop :=
  (T 0 0 ≤ 40 ∧ T 0 1 ≤ 60 ∧ T 0 2 ≤ 200 ∧ T 0 3 ≤ 40 ∧ T 0 4 < 2 ^ 31 ∧ T 0 5 ≤ 64 ∧ T 0 6 ≤ 6) ∧
  (∀ s, s < T 0 0 → T 1 s ≤ 1000000 ∧ T 2 s ≤ 12 ∧ T 3 s ≤ 1) ∧
  (∀ l, l < T 0 1 → T 4 l < T 0 0 ∧ T 5 l ≤ T 1 (T 4 l)) ∧
  (∀ b, b < T 0 2 → T 6 b < T 0 0 ∧ T 7 b < T 1 (T 6 b) ∧ T 8 b < 8 ∧ 1 ≤ T 11 (T 8 b) ∧ T 9 b < T 0 1) ∧
  (∀ k, k < 8 → T 10 k ≤ 3 ∧ T 11 k ≤ 30) ∧ (0 < T 0 5 → T 0 7 < 8 ∧ 1 ≤ T 11 (T 0 7)) ∧ (T 0 5 = 0 → T 0 6 = 0)
/-- what the cells of a Told at place 1 hold -/
def RT1 (I : Nat → Nat → Int32) (T : Nat → Nat → Nat) : Prop :=
  (I 2 0 = nI (T 0 0) ∧ I 6 0 = nI (T 0 1) ∧ I 12 0 = nI (T 0 2) ∧ I 2 1 = nI (T 0 3) ∧ I 1 4 = nI (T 0 4) ∧ I 1 5 = nI (T 0 5) ∧ I 1 6 = nI (2 ^ T 0 6) ∧ (0 < T 0 5 → I 1 7 = nI (T 0 7))) ∧
  (∀ s, s < T 0 0 → I 3 s = nI (T 1 s) ∧ I 4 s = nI (2 ^ T 2 s) ∧ I 5 s = nI (T 3 s)) ∧
  (∀ l, l < T 0 1 → I 7 l = nI (T 4 l) ∧ I 8 l = nI (T 5 l)) ∧
  (∀ b, b < T 0 2 → I 13 b = nI (T 6 b) ∧ I 14 b = nI (T 7 b) ∧ I 15 b = nI (T 8 b) ∧ I 16 b = nI (T 9 b)) ∧
  (∀ k, k < 8 → I 10 k = nI (T 10 k) ∧ I 11 k = nI (T 11 k))
/-- what the cells of a Told at place 18 hold -/
def RT18 (I : Nat → Nat → Int32) (T : Nat → Nat → Nat) : Prop :=
  (I 19 0 = nI (T 0 0) ∧ I 23 0 = nI (T 0 1) ∧ I 29 0 = nI (T 0 2) ∧ I 19 1 = nI (T 0 3) ∧ I 18 4 = nI (T 0 4) ∧ I 18 5 = nI (T 0 5) ∧ I 18 6 = nI (2 ^ T 0 6) ∧ (0 < T 0 5 → I 18 7 = nI (T 0 7))) ∧
  (∀ s, s < T 0 0 → I 20 s = nI (T 1 s) ∧ I 21 s = nI (2 ^ T 2 s) ∧ I 22 s = nI (T 3 s)) ∧
  (∀ l, l < T 0 1 → I 24 l = nI (T 4 l) ∧ I 25 l = nI (T 5 l)) ∧
  (∀ b, b < T 0 2 → I 30 b = nI (T 6 b) ∧ I 31 b = nI (T 7 b) ∧ I 32 b = nI (T 8 b) ∧ I 33 b = nI (T 9 b)) ∧
  (∀ k, k < 8 → I 27 k = nI (T 10 k) ∧ I 28 k = nI (T 11 k))
/-! ADDRESSES, with n s thunks in the pool of section s -/
def sAt (T : Nat → Nat → Nat) (n : Nat → Nat) : Nat → Nat
  | 0 => T 0 4
  | s + 1 => if n s = 0 then up (sAt T n s) (T 2 s) + T 1 s else up (up (sAt T n s) (T 2 s) + T 1 s) (T 0 6) + (n s - 1) * up (T 0 5) (T 0 6) + T 0 5
def sA (T : Nat → Nat → Nat) (n : Nat → Nat) (s : Nat) : Nat := up (sAt T n s) (T 2 s)
def pS (T : Nat → Nat → Nat) (n : Nat → Nat) (s : Nat) : Nat := up (sA T n s + T 1 s) (T 0 6)
def pE (T : Nat → Nat → Nat) (n : Nat → Nat) (s : Nat) : Nat := pS T n s + n s * up (T 0 5) (T 0 6)
def labA (T : Nat → Nat → Nat) (n : Nat → Nat) (l : Nat) : Nat := sA T n (T 4 l) + T 5 l
def braA (T : Nat → Nat → Nat) (n : Nat → Nat) (b : Nat) : Nat := sA T n (T 6 b) + T 7 b
theorem stride_le {T : Nat → Nat → Nat} (hW : WF T) : up (T 0 5) (T 0 6) ≤ 127 := by
  have h := up_le6 (a := T 0 5) hW.1.2.2.2.2.2.2
  have h2 := hW.1.2.2.2.2.2.1
  omega
theorem mul_le_b {a b A B : Nat} (h1 : a ≤ A) (h2 : b ≤ B) : a * b ≤ A * B := Nat.mul_le_mul h1 h2
theorem sAt_le {T : Nat → Nat → Nat} {n : Nat → Nat} (hW : WF T) (hn : ∀ s, n s ≤ 2400) : ∀ s, s ≤ T 0 0 → sAt T n s ≤ 2 ^ 31 + s * 1400000 := by
  intro s
  induction s with
  | zero =>
    intro _
    have := hW.1.2.2.2.2.1
    simp only [sAt]
    omega
  | succ s ih =>
    intro hs
    have h1 := ih (by omega)
    obtain ⟨g1, g2, g3⟩ := hW.2.1 s (by omega)
    have h2 := up_le12 (a := sAt T n s) g2
    have h3 := up_le6 (a := up (sAt T n s) (T 2 s) + T 1 s) hW.1.2.2.2.2.2.2
    have h4 := stride_le hW
    have h5 := hW.1.2.2.2.2.2.1
    have h6 := mul_le_b (show n s - 1 ≤ 2400 by have := hn s; omega) h4
    simp only [sAt]
    split <;> omega
theorem sA_le {T : Nat → Nat → Nat} {n : Nat → Nat} (hW : WF T) (hn : ∀ s, n s ≤ 2400) {s : Nat} (hs : s < T 0 0) : sA T n s < 2 ^ 32 := by
  have h1 := sAt_le hW hn s (by omega)
  obtain ⟨g1, g2, g3⟩ := hW.2.1 s hs
  have h2 := up_le12 (a := sAt T n s) g2
  have h3 := hW.1.1
  unfold sA
  omega
theorem pS_le {T : Nat → Nat → Nat} {n : Nat → Nat} (hW : WF T) (hn : ∀ s, n s ≤ 2400) {s : Nat} (hs : s < T 0 0) : pS T n s < 2 ^ 33 := by
  have h1 := sA_le hW hn hs
  obtain ⟨g1, g2, g3⟩ := hW.2.1 s hs
  have h3 := up_le6 (a := sA T n s + T 1 s) hW.1.2.2.2.2.2.2
  unfold pS
  omega
theorem pE_le {T : Nat → Nat → Nat} {n : Nat → Nat} (hW : WF T) (hn : ∀ s, n s ≤ 2400) {s : Nat} (hs : s < T 0 0) : pE T n s < 2 ^ 34 := by
  have h1 := pS_le hW hn hs
  have h6 := mul_le_b (hn s) (stride_le hW)
  unfold pE
  omega
theorem labA_le {T : Nat → Nat → Nat} {n : Nat → Nat} (hW : WF T) (hn : ∀ s, n s ≤ 2400) {l : Nat} (hl : l < T 0 1) : labA T n l < 2 ^ 33 := by
  obtain ⟨h1, h2⟩ := hW.2.2.1 l hl
  have h3 := sA_le hW hn h1
  have h4 := (hW.2.1 _ h1).1
  unfold labA
  omega
theorem braA_le {T : Nat → Nat → Nat} {n : Nat → Nat} (hW : WF T) (hn : ∀ s, n s ≤ 2400) {b : Nat} (hb : b < T 0 2) : braA T n b < 2 ^ 33 := by
  obtain ⟨h1, h2, _⟩ := hW.2.2.2.1 b hb
  have h3 := sA_le hW hn h1
  have h4 := (hW.2.1 _ h1).1
  unfold braA
  omega
/-- what the layout's cells hold: its Told, its addresses -/
def LR (I : Nat → Nat → Int32) (J : Nat → Nat → Int64) (T : Nat → Nat → Nat) (n : Nat → Nat) : Prop := RT18 I T ∧ WF T ∧ (∀ s, n s ≤ 2400) ∧ ∀ s, s < T 0 0 → J 35 s = lN (sA T n s) ∧ J 36 s = lN (pS T n s) ∧ J 37 s = lN (pE T n s)
def dirB (T : Nat → Nat → Nat) (n : Nat → Nat) (b : Nat) : Bool := rch (T 10 (T 8 b)) (T 11 (T 8 b)) (braA T n b) (labA T n (T 9 b))
