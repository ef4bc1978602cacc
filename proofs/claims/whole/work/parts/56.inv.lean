theorem CI_eq {I I' : Nat → Nat → Int32} {J J' : Nat → Nat → Int64} {c : Nat} {T : Nat → Nat → Nat} {fl : Nat} {TL : Nat → Nat → Nat} {M : List Th} {R : Nat} (h : CI I J c T fl TL M R) (hI : ∀ j, j ≤ 49 → I' j = I j) (hJ : ∀ j, j ≤ 45 → J' j = J j) : CI I' J' c T fl TL M R := by
  obtain ⟨h1, h2, h3, h4, h5, h6, h7⟩ := h
  refine ⟨RT1_eqx h1 (fun j _ h9 => hI j (by omega)), h2, ?_, RT18_eqx h4 (fun j _ h9 => hI j (by omega)), h5, LQ_eq h6 (fun j _ h9 => hI j (by omega)) (fun j _ h9 => hJ j (by omega)), ?_⟩
  · rw [hI 0 (by omega)]
    exact h3
  · rw [hI 17 (by omega)]
    exact h7
/-- told anew: the class's cells of what is told, the flag; the rest as it was -/
theorem CI_tell {I I' : Nat → Nat → Int32} {J : Nat → Nat → Int64} {c : Nat} {T T' : Nat → Nat → Nat} {fl : Nat} {TL : Nat → Nat → Nat} {M : List Th} {R : Nat} (h : CI I J c T fl TL M R) (hI : ∀ j, 17 ≤ j → I' j = I j) (h1 : RT1 I' T') (h2 : WF T') (h3 : I' 0 4 = 1) : CI I' J c T' 1 TL M R := by
  obtain ⟨-, -, -, h4, h5, h6, h7⟩ := h
  refine ⟨h1, h2, ⟨h3, by omega⟩, RT18_eqx h4 (fun j h9 _ => hI j (by omega)), h5, LQ_eq h6 (fun j h9 _ => hI j (by omega)) (fun j _ h9 => rfl), ?_⟩
  rw [hI 17 (by omega)]
  exact h7
theorem MLx_eq {I I' : Nat → Nat → Int32} {J J' : Nat → Nat → Int64} {TL : Nat → Nat → Nat} {M : List Th} {R : Nat} (h : MLx I J TL M R) (hI : ∀ j, 67 ≤ j → I' j = I j) (hF : EqF I I') (hJ : ∀ j, 55 ≤ j → j ≤ 85 → J' j = J j) : MLx I' J' TL M R := by
  rcases h with ⟨h1, h2⟩ | h
  · exact Or.inl ⟨by rw [hF 20 (by omega)]; exact h1, h2⟩
  · refine Or.inr ?_
    unfold ML MA at *
    simp only [hF 20 (by decide), hF 21 (by decide), hF 22 (by decide), hF 23 (by decide), hF 24 (by decide), hF 25 (by decide), hF 40 (by decide), hF 41 (by decide), hI 69 (by decide), hI 73 (by decide), hI 74 (by decide), hI 75 (by decide), hI 76 (by decide), hI 77 (by decide), hI 78 (by decide), hI 80 (by decide), hI 81 (by decide), hI 82 (by decide), hI 83 (by decide), hI 84 (by decide), hI 85 (by decide), hJ 55 (by decide) (by decide), hJ 67 (by decide) (by decide), hJ 68 (by decide) (by decide), hJ 70 (by decide) (by decide), hJ 71 (by decide) (by decide), hJ 72 (by decide) (by decide), hJ 79 (by decide) (by decide)]
    exact h
theorem RM_keep {I I' : Nat → Nat → Int32} {T : Nat → Nat → Nat} (h : RM I T) (hI : ∀ j, 55 ≤ j → I' j = I j) : RM I' T := RM_eqx h (fun j h9 _ => hI j (by omega)) (fun k _ => by rw [hI 55 (by omega)])
/-- the class and the reference hold the same -/
def Inv (I : Nat → Nat → Int32) (J : Nat → Nat → Int64) (c : Nat) (T : Nat → Nat → Nat) (fl : Nat) (TL : Nat → Nat → Nat) (M : List Th) (R : Nat) : Prop :=
  CI I J c T fl TL M R ∧ T 0 3 ≤ T 0 0 ∧ RM I T ∧ I 55 19 = nI fl ∧ MLx I J TL M R ∧ isCap c ∧ ∀ s, s < 40 → I 54 s = 0
theorem Inv_tell {I I1 I2 : Nat → Nat → Int32} {J : Nat → Nat → Int64} {c : Nat} {T T' : Nat → Nat → Nat} {fl : Nat} {TL : Nat → Nat → Nat} {M : List Th} {R : Nat} (h : Inv I J c T fl TL M R) (hE1 : ∀ j, 17 ≤ j → I1 j = I j) (hR1 : RT1 I1 T') (h4 : I1 0 4 = 1) (hE2 : ∀ j, j < 55 ∨ 66 < j → I2 j = I1 j) (hF : EqF I1 I2) (hM2 : RM I2 T') (h19 : I2 55 19 = 1) (hW : WF T') (h3 : T' 0 3 ≤ T' 0 0) : Inv I2 J c T' 1 TL M R := by
  obtain ⟨a1, a2, a3, a4, a5, a6, a7⟩ := h
  refine ⟨CI_eq (CI_tell a1 hE1 hR1 hW h4) (fun j h9 => hE2 j (by omega)) (fun _ _ => rfl), h3, hM2, h19, MLx_eq (MLx_eq a5 (fun j h9 => hE1 j (by omega)) (fun k _ => by rw [hE1 55 (by omega)]) (fun _ _ _ => rfl)) (fun j h9 => hE2 j (by omega)) hF (fun _ _ _ => rfl), a6, ?_⟩
  intro s hs
  rw [hE2 54 (by omega), hE1 54 (by omega)]
  exact a7 s hs
theorem Inv_lay {I I1 I2 : Nat → Nat → Int32} {J J1 J2 : Nat → Nat → Int64} {c c1 : Nat} {T : Nat → Nat → Nat} {fl : Nat} {TL : Nat → Nat → Nat} {M : List Th} {R : Nat} (h : Inv I J c T fl TL M R) (hC : CI I1 J1 c1 T 0 T (layM T) (stopR T + 1)) (h54 : I1 54 = I 54) (hcap : isCap c1) (hE2 : ∀ j, j < 55 → I2 j = I1 j) (hJ2 : ∀ j, j < 55 → J2 j = J1 j) (hML : ML I2 J2 T (layM T) (stopR T + 1)) (hM2 : RM I2 T) (h19 : I2 55 19 = 0) : Inv I2 J2 c1 T 0 T (layM T) (stopR T + 1) := by
  obtain ⟨a1, a2, a3, a4, a5, a6, a7⟩ := h
  refine ⟨CI_eq hC (fun j h9 => hE2 j (by omega)) (fun j h9 => hJ2 j (by omega)), a2, hM2, h19, Or.inr hML, hcap, ?_⟩
  intro s hs
  rw [hE2 54 (by omega), h54]
  exact a7 s hs
theorem Inv_far {I : Nat → Nat → Int32} {J J1 J2 : Nat → Nat → Int64} {c : Nat} {T : Nat → Nat → Nat} {fl : Nat} {TL : Nat → Nat → Nat} {M : List Th} {R : Nat} (h : Inv I J c T fl TL M R) (h1 : EqJ [50, 51, 52, 53] J J1) (h2 : EqJ [86] J1 J2) : Inv I J2 c T fl TL M R := by
  obtain ⟨a1, a2, a3, a4, a5, a6, a7⟩ := h
  have hJ : ∀ j, j ≤ 45 ∨ (55 ≤ j ∧ j ≤ 85) → J2 j = J j := fun j hj => by
    rw [h2 j (by simp; omega), h1 j (by simp; omega)]
  exact ⟨CI_eq a1 (fun _ _ => rfl) (fun j h9 => hJ j (by omega)), a2, a3, a4, MLx_eq a5 (fun _ _ => rfl) (fun _ _ => rfl) (fun j h8 h9 => hJ j (by omega)), a6, a7⟩
theorem wf_s {T : Nat → Nat → Nat} {p1 p2 : Int32} {q : Nat} (hW : WF T) (h3 : T 0 3 ≤ T 0 0) (hq : q ≤ 1) (h : secV T p1 p2) : WF (addS T p1.toNatClampNeg p2.toNatClampNeg q) ∧ addS T p1.toNatClampNeg p2.toNatClampNeg q 0 3 ≤ addS T p1.toNatClampNeg p2.toNatClampNeg q 0 0 := by
  obtain ⟨h1, h2, h4⟩ := h
  refine ⟨WF_addS hW h1 (inR_nat (n := 1000000) rfl h2).2 (inR_nat (n := 12) rfl h4).2 hq h3, ?_⟩
  simp [addS, u2, va_up]
  omega
theorem wf_l {T : Nat → Nat → Nat} {p1 p2 : Int32} (hW : WF T) (h3 : T 0 3 ≤ T 0 0) (h : labV T p1 p2) : WF (addL T p1.toNatClampNeg p2.toNatClampNeg) ∧ addL T p1.toNatClampNeg p2.toNatClampNeg 0 3 ≤ addL T p1.toNatClampNeg p2.toNatClampNeg 0 0 := by
  obtain ⟨h1, h2, h4⟩ := h
  have hb := hW.1.1
  obtain ⟨s, rfl, hs⟩ := ix_ok (n := T 0 0) (by omega) h2
  have hsz := (hW.2.1 s hs).1
  rw [nI_clamp (by omega)] at h4 ⊢
  refine ⟨WF_addL hW h1 hs (inR_nat (n := T 1 s) (nI_toInt (by omega)) h4).2, ?_⟩
  simp [addL, u2, va_up]
  omega
theorem wf_k {T : Nat → Nat → Nat} {p1 p2 p3 : Int32} (hW : WF T) (h3 : T 0 3 ≤ T 0 0) (h : kndV p1 p2 p3) : WF (addK T p1.toNatClampNeg (pw p2) p3.toNatClampNeg) ∧ addK T p1.toNatClampNeg (pw p2) p3.toNatClampNeg 0 3 ≤ addK T p1.toNatClampNeg (pw p2) p3.toNatClampNeg 0 0 := by
  obtain ⟨h1, h2, h4⟩ := h
  have h5 : inR p3 0 30 := ⟨fun h9 => h4.1 (by rw [Int32.lt_iff_toInt_lt] at *; have e0 : (0 : Int32).toInt = 0 := rfl; have e4 : (4 : Int32).toInt = 4 := rfl; omega), h4.2⟩
  obtain ⟨a1, a2⟩ := inR_nat (n := 30) rfl h5
  have h6 : 4 ≤ p3.toNatClampNeg := by
    have h9 := h4.1
    rw [a1, show (4 : Int32) = nI 4 from rfl, nI_ltI (by omega) (by omega)] at h9
    omega
  refine ⟨WF_addK hW (by unfold pw; split; omega; split; omega; split <;> omega) h6 a2, ?_⟩
  simp [addK, u2, va_up]
  omega
theorem wf_b {T : Nat → Nat → Nat} {p1 p2 p3 p4 : Int32} (hW : WF T) (h3 : T 0 3 ≤ T 0 0) (h : braV T p1 p2 p3 p4) : WF (addB T p1.toNatClampNeg p2.toNatClampNeg p3.toNatClampNeg p4.toNatClampNeg) ∧ addB T p1.toNatClampNeg p2.toNatClampNeg p3.toNatClampNeg p4.toNatClampNeg 0 3 ≤ addB T p1.toNatClampNeg p2.toNatClampNeg p3.toNatClampNeg p4.toNatClampNeg 0 0 := by
  obtain ⟨h1, h2, h4, ⟨h5, h6⟩, h7⟩ := h
  have hb := hW.1.1
  have hb2 := hW.1.2.1
  obtain ⟨s, rfl, hs⟩ := ix_ok (n := T 0 0) (by omega) h2
  have hsz := (hW.2.1 s hs).1
  rw [nI_clamp (by omega)] at h4 ⊢
  obtain ⟨f, rfl, hf⟩ := ix_ok (n := T 1 s) (p := p2) (by omega) ⟨h4.1, Int32.not_le.mpr h4.2⟩
  obtain ⟨k, rfl, hk⟩ := ix_ok (n := 8) (p := p3) (by omega) h5
  obtain ⟨t, rfl, ht⟩ := ix_ok (n := T 0 1) (p := p4) (by omega) h7
  rw [nI_clamp (by omega)] at h6
  rw [nI_clamp (by omega), nI_clamp (by omega), nI_clamp (by omega)]
  refine ⟨WF_addB hW h1 hs hf hk (by omega) ht, ?_⟩
  simp [addB, u2, va_up]
  omega
theorem wf_t {T : Nat → Nat → Nat} {p1 p2 p3 : Int32} (hW : WF T) (h3 : T 0 3 ≤ T 0 0) (h : thkV T p1 p2 p3) : WF (addT T p1.toNatClampNeg p2.toNatClampNeg p3.toNatClampNeg) ∧ addT T p1.toNatClampNeg p2.toNatClampNeg p3.toNatClampNeg 0 3 ≤ addT T p1.toNatClampNeg p2.toNatClampNeg p3.toNatClampNeg 0 0 := by
  obtain ⟨h1, h2, ⟨h5, h6⟩⟩ := h
  have h7 : inR p1 0 64 := ⟨fun h9 => h1.1 (by rw [Int32.lt_iff_toInt_lt] at *; have e0 : (0 : Int32).toInt = 0 := rfl; have e4 : (1 : Int32).toInt = 1 := rfl; omega), h1.2⟩
  obtain ⟨a1, a2⟩ := inR_nat (n := 64) rfl h7
  have h8 : 1 ≤ p1.toNatClampNeg := by
    have h9 := h1.1
    rw [a1, show (1 : Int32) = nI 1 from rfl, nI_ltI (by omega) (by omega)] at h9
    omega
  obtain ⟨k, rfl, hk⟩ := ix_ok (n := 8) (p := p3) (by omega) h5
  rw [nI_clamp (by omega)] at h6 ⊢
  refine ⟨WF_addT hW h8 a2 (inR_nat (n := 6) rfl h2).2 hk (by omega), ?_⟩
  simp [addT, u2, va_up]
  omega
theorem wf_a {T : Nat → Nat → Nat} {p1 : Int32} (hW : WF T) (h3 : T 0 3 ≤ T 0 0) (h : ¬ p1 < 0) : WF (addA T p1.toNatClampNeg) ∧ addA T p1.toNatClampNeg 0 3 ≤ addA T p1.toNatClampNeg 0 0 := by
  refine ⟨WF_addA hW ?_, ?_⟩
  · have := Int32.toInt_lt p1
    unfold Int32.toNatClampNeg
    omega
  · simp [addA, u2, va_up]
    omega
theorem wf_z {T : Nat → Nat → Nat} {p1 p2 : Int32} (hW : WF T) (h3 : T 0 3 ≤ T 0 0) (h : rszV T p1 p2) : WF (setS T p1.toNatClampNeg p2.toNatClampNeg) ∧ setS T p1.toNatClampNeg p2.toNatClampNeg 0 3 ≤ setS T p1.toNatClampNeg p2.toNatClampNeg 0 0 := by
  obtain ⟨h1, h2, h4, h5⟩ := h
  have hb := hW.1.1
  obtain ⟨s, rfl, hs⟩ := ix_ok (n := T 0 0) (by omega) h1
  obtain ⟨a1, a2⟩ := inR_nat (n := 1000000) rfl h2
  rw [nI_clamp (by omega)]
  generalize p2.toNatClampNeg = n at a1 a2
  subst a1
  refine ⟨WF_setS hW a2 ?_ ?_, ?_⟩
  · intro l hl e
    obtain ⟨b1, b2⟩ := hW.2.2.1 l hl
    have b3 := (hW.2.1 _ b1).1
    have h9 := h4 l hl (by rw [e])
    rw [nI_ltI (by omega) (by omega)] at h9
    omega
  · intro b hb e
    obtain ⟨b1, b2, -⟩ := hW.2.2.2.1 b hb
    have b3 := (hW.2.1 _ b1).1
    have h9 := h5 b hb (by rw [e])
    rw [nI_ltI (by omega) (by omega)] at h9
    omega
  · simp [setS, u2, va_up]
    omega
theorem wf_g {T : Nat → Nat → Nat} {p1 p2 : Int32} (hW : WF T) (h3 : T 0 3 ≤ T 0 0) (h : rtgV T p1 p2) : WF (setB T p1.toNatClampNeg p2.toNatClampNeg) ∧ setB T p1.toNatClampNeg p2.toNatClampNeg 0 3 ≤ setB T p1.toNatClampNeg p2.toNatClampNeg 0 0 := by
  obtain ⟨h1, h2⟩ := h
  have hb := hW.1.2.1
  obtain ⟨t, rfl, ht⟩ := ix_ok (n := T 0 1) (p := p2) (by omega) h2
  rw [nI_clamp (n := t) (by omega)]
  refine ⟨WF_setB hW ht, ?_⟩
  simp [setB, u2, va_up]
  omega
theorem law_sub {L i : Nat} (hL : L ≤ 2560) (hi : i ≤ 2600) (h : ¬ nI L - 5 < nI i) : i + 5 ≤ L := by
  rw [Int32.lt_iff_toInt_lt, nI_toInt (by omega)] at h
  have e : (nI L - 5).toInt = (L : Int) - 5 := by
    rw [nI_iN, show (5 : Int32) = iN 5 from rfl, iN_sub]
    unfold iN
    exact Int32.toInt_ofInt_of_le (by omega) (by omega)
  omega
theorem layM_len {T : Nat → Nat → Nat} {I : Nat → Nat → Int32} {J : Nat → Nat → Int64} {c : Nat} {fl R : Nat} {TL : Nat → Nat → Nat} {M : List Th} (h : CI I J c T fl TL M R) : M.length ≤ 2400 := by
  have := h.2.2.2.2.2.1.1
  omega
theorem isCap_b {c : Nat} (h : isCap c) : 16 ≤ c ∧ c ≤ 2400 := by
  unfold isCap at h
  omega
