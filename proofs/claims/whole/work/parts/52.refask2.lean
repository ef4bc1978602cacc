theorem q_un {T TL : Nat → Nat → Nat} {fl : Nat} (hz : ∀ r j, TL r j = 0) {p : Int32} (h : ¬ p < 0 ∧ ¬ 7 < p) : qCount T fl TL [] 0 p = 0 := by
  have e0 : nI 0 = 0 := rfl
  have hs : sAt TL (cnt []) 0 = 0 := by simp only [sAt]; exact hz 0 4
  obtain ⟨a1, ha⟩ := inR_nat (v := p) (n := 7) rfl h
  generalize p.toNatClampNeg = a at a1 ha
  subst a1
  rcases (show a = 0 ∨ a = 1 ∨ a = 2 ∨ a = 3 ∨ a = 4 ∨ a = 5 ∨ a = 6 ∨ a = 7 by omega) with rfl | rfl | rfl | rfl | rfl | rfl | rfl | rfl
  · rfl
  · rfl
  · show nI (wc TL [] 0 (TL 0 2)) = 0
    rw [hz 0 2]
    rfl
  · show nI (wc TL [] 1 (TL 0 2)) = 0
    rw [hz 0 2]
    rfl
  · show nI (wc TL [] 2 (TL 0 2)) = 0
    rw [hz 0 2]
    rfl
  · rfl
  · show iN ((sAt TL (cnt []) (TL 0 0) : Int) - TL 0 4 - (([] : List Th).length : Int) * TL 0 5 - ((sumS TL (TL 0 0) : Nat) : Int)) = 0
    rw [hz 0 0, hs, hz 0 4]
    simp [sumS, iN]
  · show nI (sAt TL (cnt []) (TL 0 0) - TL 0 4) = 0
    rw [hz 0 0, hs]
    simp
    rfl
theorem q_67 {T TL : Nat → Nat → Nat} {fl R : Nat} {M : List Th} (h0 : TL 0 0 = 0) (hM : M = []) {p : Int32} (h : ¬ p < 0 ∧ ¬ 7 < p) (h5 : ¬ p ≤ 5) : qCount T fl TL M R p = 0 := by
  subst hM
  have hs : sAt TL (cnt []) 0 = TL 0 4 := rfl
  obtain ⟨a1, ha⟩ := inR_nat (v := p) (n := 7) rfl h
  generalize p.toNatClampNeg = a at a1 ha
  subst a1
  have h6 : 5 < a := by
    rw [show (5 : Int32) = nI 5 from rfl, nI_leI (by omega) (by omega)] at h5
    omega
  rcases (show a = 6 ∨ a = 7 by omega) with rfl | rfl
  · show iN ((sAt TL (cnt []) (TL 0 0) : Int) - TL 0 4 - (([] : List Th).length : Int) * TL 0 5 - ((sumS TL (TL 0 0) : Nat) : Int)) = 0
    rw [h0, hs]
    simp [sumS, iN]
  · show nI (sAt TL (cnt []) (TL 0 0) - TL 0 4) = 0
    rw [h0, hs]
    simp
    rfl
set_option maxHeartbeats 4000000 in
set_option maxRecDepth 100000 in
theorem c_X9_count (l : Launch) (D : va_G) (y : Nat → ClassId) (ad : Nat → Nat) (cap : Nat → Nat) (I : Nat → Nat → Int32) (J : Nat → Nat → Int64) {T : Nat → Nat → Nat} {fl : Nat} (hM : RM I T) (hfl : I 55 19 = nI fl ∧ fl ≤ 1) {TL : Nat → Nat → Nat} {M : List Th} {R : Nat} (hX : MLx I J TL M R) (hW : WF TL) (p1 : Int32) : Met l yX9_count [.code yX9_count cX9_count 2 (some .int)] ({ frames := 1, cells := 0, slots := 0, locals := 23 }) (va_Pc [.ref (ad 55), .int p1] (PR D y (Wd y ad cap I J))) (vp_Si (fun r => r = qCount T fl TL M R p1)) 0 0 (fun _ => False) := by
  refine Met.ofW (cc := cX9_count) (maxL := 2) (ret := (some .int)) (by decide) rfl ?_
  intro p e s m args below meth c s₁ B hml hv
  obtain ⟨rfl, hP, hO⟩ := hv
  have hx := B.exec
  have hb := B.bytes
  have hr := B.returns
  have hown : s.vm.findClass RX9 = some m.cls := findClass_of_methodNamed B.named
  have hlocks := B.notSynchronized
  have hK := hO.1
  have hts : ∀ w ∈ lw_E, w.before ([.ref (ad 55), .int p1] : List Value).toArray s = true := fun w h => hO.2 w h _
  clear B
  have hl := lv_entry ([.ref (ad 55), .int p1]) (n := 2) (Nat.le_of_ble_eq_true rfl)
  rw [lg_entry_eq]
  generalize (lg_sl ([.ref (ad 55), .int p1]) ++ List.replicate (2 - (lg_sl ([.ref (ad 55), .int p1])).length) Slot.unset).toArray = ls at hl ⊢
  have hl : lv_has ls 2 [(0, .ref (ad 55)), (1, .int p1)] := hl
  rcases hX with hX | hML
  · skip
    obtain ⟨m20, hz, rfl, rfl⟩ := hX
    refine lv_iload_n hx hb dX9_count_0 rfl (lv_at hl 1 rfl) ?_
    refine lv_iconst (v := 0) hx hb dX9_count_1 (by decide) ?_
    refine lv_bipush (v := 7) hx hb dX9_count_2 (by decide) ?_
    refine rk_i (run_s (As := [.int p1, .int 0, .int 7]) (rest := []) hx hb hml hown hO.2 (c_X9_in l D y p1 0 7) k_X9_in ml_X9_110 ⟨rfl, rfl⟩ ⟨Nat.le_of_ble_eq_true rfl, Nat.le_of_ble_eq_true rfl⟩ (pre_SR hO hP) rfl hl.1 rfl (Nat.le_of_ble_eq_true rfl) dX9_count_4 ⟨(Nat.zero_le _), (Nat.zero_le _)⟩) (fun r4 er4 => ?_)
    try dsimp only at er4
    refine lv_if_eq (tgt := 31) hx hb dX9_count_7 (by decide) (fun c7 => ?_) (fun c7 => ?_)
    · skip
      have c7 := if01_z er4 c7
      
      refine lv_iload_n hx hb dX9_count_31 rfl (lv_at hl 1 rfl) ?_
      by_cases hsw : p1.toInt < 0 ∨ 14 < p1.toInt
      · skip
        refine lv_tableOut (tgt := 191) hx hb dX9_count_32 hsw (by decide) ?_
        refine lv_iconst (v := (-1)) hx hb dX9_count_191 (by decide) ?_
        refine W.iret (v := (-1)) hx hb hr (fun t ht hW => ⟨_, rfl, ?_, ht⟩) (fun _ h => nomatch h) dX9_count_192
        unfold qCount
        rw [if_neg (fun e => by rw [e] at hsw; exact absurd hsw (by decide)), if_neg (fun e => by rw [e] at hsw; exact absurd hsw (by decide)), if_neg (fun e => by rw [e] at hsw; exact absurd hsw (by decide)), if_neg (fun e => by rw [e] at hsw; exact absurd hsw (by decide)), if_neg (fun e => by rw [e] at hsw; exact absurd hsw (by decide)), if_neg (fun e => by rw [e] at hsw; exact absurd hsw (by decide)), if_neg (fun e => by rw [e] at hsw; exact absurd hsw (by decide)), if_neg (fun e => by rw [e] at hsw; exact absurd hsw (by decide)), if_neg (fun e => by rw [e] at hsw; exact absurd hsw (by decide)), if_neg (fun e => by rw [e] at hsw; exact absurd hsw (by decide)), if_neg (fun e => by rw [e] at hsw; exact absurd hsw (by decide)), if_neg (fun e => by rw [e] at hsw; exact absurd hsw (by decide)), if_neg (fun e => by rw [e] at hsw; exact absurd hsw (by decide))]
      · skip
        have hsw2 : p1 = 0 ∨ p1 = 1 ∨ p1 = 2 ∨ p1 = 3 ∨ p1 = 4 ∨ p1 = 5 ∨ p1 = 6 ∨ p1 = 7 ∨ p1 = 8 ∨ p1 = 9 ∨ p1 = 10 ∨ p1 = 11 ∨ p1 = 12 ∨ p1 = 13 ∨ p1 = 14 := by
          have h1 : p1.toInt = 0 ∨ p1.toInt = 1 ∨ p1.toInt = 2 ∨ p1.toInt = 3 ∨ p1.toInt = 4 ∨ p1.toInt = 5 ∨ p1.toInt = 6 ∨ p1.toInt = 7 ∨ p1.toInt = 8 ∨ p1.toInt = 9 ∨ p1.toInt = 10 ∨ p1.toInt = 11 ∨ p1.toInt = 12 ∨ p1.toInt = 13 ∨ p1.toInt = 14 := by omega
          rcases h1 with h1 | h1 | h1 | h1 | h1 | h1 | h1 | h1 | h1 | h1 | h1 | h1 | h1 | h1 | h1
          · exact Or.inl (Int32.toInt_inj.mp h1)
          · exact Or.inr (Or.inl (Int32.toInt_inj.mp h1))
          · exact Or.inr (Or.inr (Or.inl (Int32.toInt_inj.mp h1)))
          · exact Or.inr (Or.inr (Or.inr (Or.inl (Int32.toInt_inj.mp h1))))
          · exact Or.inr (Or.inr (Or.inr (Or.inr (Or.inl (Int32.toInt_inj.mp h1)))))
          · exact Or.inr (Or.inr (Or.inr (Or.inr (Or.inr (Or.inl (Int32.toInt_inj.mp h1))))))
          · exact Or.inr (Or.inr (Or.inr (Or.inr (Or.inr (Or.inr (Or.inl (Int32.toInt_inj.mp h1)))))))
          · exact Or.inr (Or.inr (Or.inr (Or.inr (Or.inr (Or.inr (Or.inr (Or.inl (Int32.toInt_inj.mp h1))))))))
          · exact Or.inr (Or.inr (Or.inr (Or.inr (Or.inr (Or.inr (Or.inr (Or.inr (Or.inl (Int32.toInt_inj.mp h1)))))))))
          · exact Or.inr (Or.inr (Or.inr (Or.inr (Or.inr (Or.inr (Or.inr (Or.inr (Or.inr (Or.inl (Int32.toInt_inj.mp h1))))))))))
          · exact Or.inr (Or.inr (Or.inr (Or.inr (Or.inr (Or.inr (Or.inr (Or.inr (Or.inr (Or.inr (Or.inl (Int32.toInt_inj.mp h1)))))))))))
          · exact Or.inr (Or.inr (Or.inr (Or.inr (Or.inr (Or.inr (Or.inr (Or.inr (Or.inr (Or.inr (Or.inr (Or.inl (Int32.toInt_inj.mp h1))))))))))))
          · exact Or.inr (Or.inr (Or.inr (Or.inr (Or.inr (Or.inr (Or.inr (Or.inr (Or.inr (Or.inr (Or.inr (Or.inr (Or.inl (Int32.toInt_inj.mp h1)))))))))))))
          · exact Or.inr (Or.inr (Or.inr (Or.inr (Or.inr (Or.inr (Or.inr (Or.inr (Or.inr (Or.inr (Or.inr (Or.inr (Or.inr (Or.inl (Int32.toInt_inj.mp h1))))))))))))))
          · exact Or.inr (Or.inr (Or.inr (Or.inr (Or.inr (Or.inr (Or.inr (Or.inr (Or.inr (Or.inr (Or.inr (Or.inr (Or.inr (Or.inr (Int32.toInt_inj.mp h1))))))))))))))
        rcases hsw2 with hsw3 | hsw3 | hsw3 | hsw3 | hsw3 | hsw3 | hsw3 | hsw3 | hsw3 | hsw3 | hsw3 | hsw3 | hsw3 | hsw3 | hsw3
        · skip
          subst hsw3
          exact absurd (show ¬ (0 : Int32) < 0 ∧ ¬ (7 : Int32) < 0 by decide) c7
        · skip
          subst hsw3
          exact absurd (show ¬ (1 : Int32) < 0 ∧ ¬ (7 : Int32) < 1 by decide) c7
        · skip
          subst hsw3
          exact absurd (show ¬ (2 : Int32) < 0 ∧ ¬ (7 : Int32) < 2 by decide) c7
        · skip
          subst hsw3
          exact absurd (show ¬ (3 : Int32) < 0 ∧ ¬ (7 : Int32) < 3 by decide) c7
        · skip
          subst hsw3
          exact absurd (show ¬ (4 : Int32) < 0 ∧ ¬ (7 : Int32) < 4 by decide) c7
        · skip
          subst hsw3
          exact absurd (show ¬ (5 : Int32) < 0 ∧ ¬ (7 : Int32) < 5 by decide) c7
        · skip
          subst hsw3
          exact absurd (show ¬ (6 : Int32) < 0 ∧ ¬ (7 : Int32) < 6 by decide) c7
        · skip
          subst hsw3
          exact absurd (show ¬ (7 : Int32) < 0 ∧ ¬ (7 : Int32) < 7 by decide) c7
        · skip
          subst hsw3
          refine lv_tableIn (off := 159) (tgt := 191) hx hb dX9_count_32 (by decide) (by decide) rfl (by decide) ?_
          refine lv_iconst (v := (-1)) hx hb dX9_count_191 (by decide) ?_
          refine W.iret (v := (-1)) hx hb hr (fun t ht hW => ⟨_, rfl, ?_, ht⟩) (fun _ h => nomatch h) dX9_count_192
          unfold qCount
          rw [if_neg (by decide), if_neg (by decide), if_neg (by decide), if_neg (by decide), if_neg (by decide), if_neg (by decide), if_neg (by decide), if_neg (by decide), if_neg (by decide), if_neg (by decide), if_neg (by decide), if_neg (by decide), if_neg (by decide)]
        · skip
          subst hsw3
          refine lv_tableIn (off := 159) (tgt := 191) hx hb dX9_count_32 (by decide) (by decide) rfl (by decide) ?_
          refine lv_iconst (v := (-1)) hx hb dX9_count_191 (by decide) ?_
          refine W.iret (v := (-1)) hx hb hr (fun t ht hW => ⟨_, rfl, ?_, ht⟩) (fun _ h => nomatch h) dX9_count_192
          unfold qCount
          rw [if_neg (by decide), if_neg (by decide), if_neg (by decide), if_neg (by decide), if_neg (by decide), if_neg (by decide), if_neg (by decide), if_neg (by decide), if_neg (by decide), if_neg (by decide), if_neg (by decide), if_neg (by decide), if_neg (by decide)]
        · skip
          subst hsw3
          refine lv_tableIn (off := 126) (tgt := 158) hx hb dX9_count_32 (by decide) (by decide) rfl (by decide) ?_
          refine lv_aload_n hx hb dX9_count_158 rfl (lv_at hl 0 rfl) ?_
          refine va_get (D := D) (T := TX9) (N := 51) hx hb hts jnX9 hown hK hP 55 (wd_55 y ad cap I J) rfl 0 (by decide) (hts _ fl_X9_105) (fun _ h9 => h9) rfl dX9_count_159 ?_
          refine lv_topi (fun v159 ev159 => ?_)
          obtain rfl : v159 = (nI (T 0 0)) := by
            rw [ev159]; exact hM.1.1
          refine W.iret (v := (nI (T 0 0))) hx hb hr (fun t ht hW => ⟨_, rfl, ?_, ht⟩) (fun _ h => nomatch h) dX9_count_162
          unfold qCount
          rw [if_neg (by decide), if_neg (by decide), if_neg (by decide), if_neg (by decide), if_neg (by decide), if_neg (by decide), if_neg (by decide), if_neg (by decide), if_pos rfl]
        · skip
          subst hsw3
          refine lv_tableIn (off := 131) (tgt := 163) hx hb dX9_count_32 (by decide) (by decide) rfl (by decide) ?_
          refine lv_aload_n hx hb dX9_count_163 rfl (lv_at hl 0 rfl) ?_
          refine va_get (D := D) (T := TX9) (N := 51) hx hb hts jnX9 hown hK hP 55 (wd_55 y ad cap I J) rfl 1 (by decide) (hts _ fl_X9_121) (fun _ h9 => h9) rfl dX9_count_164 ?_
          refine lv_topi (fun v164 ev164 => ?_)
          obtain rfl : v164 = (nI (T 0 1)) := by
            rw [ev164]; exact hM.1.2.1
          refine W.iret (v := (nI (T 0 1))) hx hb hr (fun t ht hW => ⟨_, rfl, ?_, ht⟩) (fun _ h => nomatch h) dX9_count_167
          unfold qCount
          rw [if_neg (by decide), if_neg (by decide), if_neg (by decide), if_neg (by decide), if_neg (by decide), if_neg (by decide), if_neg (by decide), if_neg (by decide), if_neg (by decide), if_pos rfl]
        · skip
          subst hsw3
          refine lv_tableIn (off := 136) (tgt := 168) hx hb dX9_count_32 (by decide) (by decide) rfl (by decide) ?_
          refine lv_aload_n hx hb dX9_count_168 rfl (lv_at hl 0 rfl) ?_
          refine va_get (D := D) (T := TX9) (N := 51) hx hb hts jnX9 hown hK hP 55 (wd_55 y ad cap I J) rfl 2 (by decide) (hts _ fl_X9_124) (fun _ h9 => h9) rfl dX9_count_169 ?_
          refine lv_topi (fun v169 ev169 => ?_)
          obtain rfl : v169 = (nI (T 0 2)) := by
            rw [ev169]; exact hM.1.2.2.1
          refine W.iret (v := (nI (T 0 2))) hx hb hr (fun t ht hW => ⟨_, rfl, ?_, ht⟩) (fun _ h => nomatch h) dX9_count_172
          unfold qCount
          rw [if_neg (by decide), if_neg (by decide), if_neg (by decide), if_neg (by decide), if_neg (by decide), if_neg (by decide), if_neg (by decide), if_neg (by decide), if_neg (by decide), if_neg (by decide), if_pos rfl]
        · skip
          subst hsw3
          refine lv_tableIn (off := 141) (tgt := 173) hx hb dX9_count_32 (by decide) (by decide) rfl (by decide) ?_
          refine lv_aload_n hx hb dX9_count_173 rfl (lv_at hl 0 rfl) ?_
          refine va_get (D := D) (T := TX9) (N := 51) hx hb hts jnX9 hown hK hP 55 (wd_55 y ad cap I J) rfl 3 (by decide) (hts _ fl_X9_114) (fun _ h9 => h9) rfl dX9_count_174 ?_
          refine lv_topi (fun v174 ev174 => ?_)
          obtain rfl : v174 = (nI (T 0 3)) := by
            rw [ev174]; exact hM.1.2.2.2.1
          refine W.iret (v := (nI (T 0 3))) hx hb hr (fun t ht hW => ⟨_, rfl, ?_, ht⟩) (fun _ h => nomatch h) dX9_count_177
          unfold qCount
          rw [if_neg (by decide), if_neg (by decide), if_neg (by decide), if_neg (by decide), if_neg (by decide), if_neg (by decide), if_neg (by decide), if_neg (by decide), if_neg (by decide), if_neg (by decide), if_neg (by decide), if_pos rfl]
        · skip
          subst hsw3
          refine lv_tableIn (off := 146) (tgt := 178) hx hb dX9_count_32 (by decide) (by decide) rfl (by decide) ?_
          refine lv_aload_n hx hb dX9_count_178 rfl (lv_at hl 0 rfl) ?_
          refine va_get (D := D) (T := TX9) (N := 51) hx hb hts jnX9 hown hK hP 55 (wd_55 y ad cap I J) rfl 19 (by decide) (hts _ fl_X9_117) (fun _ h9 => h9) rfl dX9_count_179 ?_
          refine lv_topi (fun v179 ev179 => ?_)
          obtain rfl : v179 = (nI fl) := by
            rw [ev179]; exact hfl.1
          refine lv_if_eq (tgt := 189) hx hb dX9_count_182 (by decide) (fun c182 => ?_) (fun c182 => ?_)
          · skip
            refine lv_iconst (v := 0) hx hb dX9_count_189 (by decide) ?_
            refine W.iret (v := 0) hx hb hr (fun t ht hW => ⟨_, rfl, ?_, ht⟩) (fun _ h => nomatch h) dX9_count_190
            unfold qCount
            rw [if_neg (by decide), if_neg (by decide), if_neg (by decide), if_neg (by decide), if_neg (by decide), if_neg (by decide), if_neg (by decide), if_neg (by decide), if_neg (by decide), if_neg (by decide), if_neg (by decide), if_neg (by decide), if_pos rfl]
            first | rw [show fl = 0 from (nI_z (by have := hfl.2; omega)).mp c182]; rfl | (rw [show fl = 1 from by have h9 := mt (nI_z (by have := hfl.2; omega)).mpr c182; have := hfl.2; omega]; rfl)
          · skip
            refine lv_iconst (v := 1) hx hb dX9_count_185 (by decide) ?_
            refine lv_goto (tgt := 190) hx hb dX9_count_186 (by decide) ?_
            refine W.iret (v := 1) hx hb hr (fun t ht hW => ⟨_, rfl, ?_, ht⟩) (fun _ h => nomatch h) dX9_count_190
            unfold qCount
            rw [if_neg (by decide), if_neg (by decide), if_neg (by decide), if_neg (by decide), if_neg (by decide), if_neg (by decide), if_neg (by decide), if_neg (by decide), if_neg (by decide), if_neg (by decide), if_neg (by decide), if_neg (by decide), if_pos rfl]
            first | rw [show fl = 0 from (nI_z (by have := hfl.2; omega)).mp c182]; rfl | (rw [show fl = 1 from by have h9 := mt (nI_z (by have := hfl.2; omega)).mpr c182; have := hfl.2; omega]; rfl)
    · skip
      have c7 := if01_n er4 c7
      
      refine lv_aload_n hx hb dX9_count_10 rfl (lv_at hl 0 rfl) ?_
      refine va_get (D := D) (T := TX9) (N := 51) hx hb hts jnX9 hown hK hP 55 (wd_55 y ad cap I J) rfl 20 (by decide) (hts _ fl_X9_187) (fun _ h9 => h9) rfl dX9_count_11 ?_
      refine lv_topi (fun v11 ev11 => ?_)
      obtain rfl : v11 = 0 := by
        rw [ev11]; exact m20
      refine lv_if_eq (tgt := 29) hx hb dX9_count_14 (by decide) (fun c14 => ?_) (fun c14 => ?_)
      · skip
        refine lv_iconst (v := 0) hx hb dX9_count_29 (by decide) ?_
        refine W.iret (v := 0) hx hb hr (fun t ht hW => ⟨_, rfl, ?_, ht⟩) (fun _ h => nomatch h) dX9_count_30
        exact (q_un hz c7).symm
      · skip
        exact absurd c14 (by decide)
  · skip
    have hML0 := hML
    obtain ⟨⟨m20, m21, m22, m23, m24, m25, m40, m41, m26⟩, ⟨hTWM, htz0⟩, m69, hK9, mB, mT, hA⟩ := hML
    have hW0 := hW
    obtain ⟨⟨w1, w2, w3, w4, w5, w6, w7⟩, wS, wL, wB, wK, wTk, wT0⟩ := hW
    have hlM : M.length ≤ 2400 := TW_len hW0 hTWM
    have hnM : ∀ s, cnt M s ≤ 2400 := fun s => Nat.le_trans (cnt_le M s) hlM
    refine lv_iload_n hx hb dX9_count_0 rfl (lv_at hl 1 rfl) ?_
    refine lv_iconst (v := 0) hx hb dX9_count_1 (by decide) ?_
    refine lv_bipush (v := 7) hx hb dX9_count_2 (by decide) ?_
    refine rk_i (run_s (As := [.int p1, .int 0, .int 7]) (rest := []) hx hb hml hown hO.2 (c_X9_in l D y p1 0 7) k_X9_in ml_X9_110 ⟨rfl, rfl⟩ ⟨Nat.le_of_ble_eq_true rfl, Nat.le_of_ble_eq_true rfl⟩ (pre_SR hO hP) rfl hl.1 rfl (Nat.le_of_ble_eq_true rfl) dX9_count_4 ⟨(Nat.zero_le _), (Nat.zero_le _)⟩) (fun r4 er4 => ?_)
    try dsimp only at er4
    refine lv_if_eq (tgt := 31) hx hb dX9_count_7 (by decide) (fun c7 => ?_) (fun c7 => ?_)
    · skip
      have c7 := if01_z er4 c7
      
      refine lv_iload_n hx hb dX9_count_31 rfl (lv_at hl 1 rfl) ?_
      by_cases hsw : p1.toInt < 0 ∨ 14 < p1.toInt
      · skip
        refine lv_tableOut (tgt := 191) hx hb dX9_count_32 hsw (by decide) ?_
        refine lv_iconst (v := (-1)) hx hb dX9_count_191 (by decide) ?_
        refine W.iret (v := (-1)) hx hb hr (fun t ht hW => ⟨_, rfl, ?_, ht⟩) (fun _ h => nomatch h) dX9_count_192
        unfold qCount
        rw [if_neg (fun e => by rw [e] at hsw; exact absurd hsw (by decide)), if_neg (fun e => by rw [e] at hsw; exact absurd hsw (by decide)), if_neg (fun e => by rw [e] at hsw; exact absurd hsw (by decide)), if_neg (fun e => by rw [e] at hsw; exact absurd hsw (by decide)), if_neg (fun e => by rw [e] at hsw; exact absurd hsw (by decide)), if_neg (fun e => by rw [e] at hsw; exact absurd hsw (by decide)), if_neg (fun e => by rw [e] at hsw; exact absurd hsw (by decide)), if_neg (fun e => by rw [e] at hsw; exact absurd hsw (by decide)), if_neg (fun e => by rw [e] at hsw; exact absurd hsw (by decide)), if_neg (fun e => by rw [e] at hsw; exact absurd hsw (by decide)), if_neg (fun e => by rw [e] at hsw; exact absurd hsw (by decide)), if_neg (fun e => by rw [e] at hsw; exact absurd hsw (by decide)), if_neg (fun e => by rw [e] at hsw; exact absurd hsw (by decide))]
      · skip
        have hsw2 : p1 = 0 ∨ p1 = 1 ∨ p1 = 2 ∨ p1 = 3 ∨ p1 = 4 ∨ p1 = 5 ∨ p1 = 6 ∨ p1 = 7 ∨ p1 = 8 ∨ p1 = 9 ∨ p1 = 10 ∨ p1 = 11 ∨ p1 = 12 ∨ p1 = 13 ∨ p1 = 14 := by
          have h1 : p1.toInt = 0 ∨ p1.toInt = 1 ∨ p1.toInt = 2 ∨ p1.toInt = 3 ∨ p1.toInt = 4 ∨ p1.toInt = 5 ∨ p1.toInt = 6 ∨ p1.toInt = 7 ∨ p1.toInt = 8 ∨ p1.toInt = 9 ∨ p1.toInt = 10 ∨ p1.toInt = 11 ∨ p1.toInt = 12 ∨ p1.toInt = 13 ∨ p1.toInt = 14 := by omega
          rcases h1 with h1 | h1 | h1 | h1 | h1 | h1 | h1 | h1 | h1 | h1 | h1 | h1 | h1 | h1 | h1
          · exact Or.inl (Int32.toInt_inj.mp h1)
          · exact Or.inr (Or.inl (Int32.toInt_inj.mp h1))
          · exact Or.inr (Or.inr (Or.inl (Int32.toInt_inj.mp h1)))
          · exact Or.inr (Or.inr (Or.inr (Or.inl (Int32.toInt_inj.mp h1))))
          · exact Or.inr (Or.inr (Or.inr (Or.inr (Or.inl (Int32.toInt_inj.mp h1)))))
          · exact Or.inr (Or.inr (Or.inr (Or.inr (Or.inr (Or.inl (Int32.toInt_inj.mp h1))))))
          · exact Or.inr (Or.inr (Or.inr (Or.inr (Or.inr (Or.inr (Or.inl (Int32.toInt_inj.mp h1)))))))
          · exact Or.inr (Or.inr (Or.inr (Or.inr (Or.inr (Or.inr (Or.inr (Or.inl (Int32.toInt_inj.mp h1))))))))
          · exact Or.inr (Or.inr (Or.inr (Or.inr (Or.inr (Or.inr (Or.inr (Or.inr (Or.inl (Int32.toInt_inj.mp h1)))))))))
          · exact Or.inr (Or.inr (Or.inr (Or.inr (Or.inr (Or.inr (Or.inr (Or.inr (Or.inr (Or.inl (Int32.toInt_inj.mp h1))))))))))
          · exact Or.inr (Or.inr (Or.inr (Or.inr (Or.inr (Or.inr (Or.inr (Or.inr (Or.inr (Or.inr (Or.inl (Int32.toInt_inj.mp h1)))))))))))
          · exact Or.inr (Or.inr (Or.inr (Or.inr (Or.inr (Or.inr (Or.inr (Or.inr (Or.inr (Or.inr (Or.inr (Or.inl (Int32.toInt_inj.mp h1))))))))))))
          · exact Or.inr (Or.inr (Or.inr (Or.inr (Or.inr (Or.inr (Or.inr (Or.inr (Or.inr (Or.inr (Or.inr (Or.inr (Or.inl (Int32.toInt_inj.mp h1)))))))))))))
          · exact Or.inr (Or.inr (Or.inr (Or.inr (Or.inr (Or.inr (Or.inr (Or.inr (Or.inr (Or.inr (Or.inr (Or.inr (Or.inr (Or.inl (Int32.toInt_inj.mp h1))))))))))))))
          · exact Or.inr (Or.inr (Or.inr (Or.inr (Or.inr (Or.inr (Or.inr (Or.inr (Or.inr (Or.inr (Or.inr (Or.inr (Or.inr (Or.inr (Int32.toInt_inj.mp h1))))))))))))))
        rcases hsw2 with hsw3 | hsw3 | hsw3 | hsw3 | hsw3 | hsw3 | hsw3 | hsw3 | hsw3 | hsw3 | hsw3 | hsw3 | hsw3 | hsw3 | hsw3
        · skip
          subst hsw3
          exact absurd (show ¬ (0 : Int32) < 0 ∧ ¬ (7 : Int32) < 0 by decide) c7
        · skip
          subst hsw3
          exact absurd (show ¬ (1 : Int32) < 0 ∧ ¬ (7 : Int32) < 1 by decide) c7
        · skip
          subst hsw3
          exact absurd (show ¬ (2 : Int32) < 0 ∧ ¬ (7 : Int32) < 2 by decide) c7
        · skip
          subst hsw3
          exact absurd (show ¬ (3 : Int32) < 0 ∧ ¬ (7 : Int32) < 3 by decide) c7
        · skip
          subst hsw3
          exact absurd (show ¬ (4 : Int32) < 0 ∧ ¬ (7 : Int32) < 4 by decide) c7
        · skip
          subst hsw3
          exact absurd (show ¬ (5 : Int32) < 0 ∧ ¬ (7 : Int32) < 5 by decide) c7
        · skip
          subst hsw3
          exact absurd (show ¬ (6 : Int32) < 0 ∧ ¬ (7 : Int32) < 6 by decide) c7
        · skip
          subst hsw3
          exact absurd (show ¬ (7 : Int32) < 0 ∧ ¬ (7 : Int32) < 7 by decide) c7
        · skip
          subst hsw3
          refine lv_tableIn (off := 159) (tgt := 191) hx hb dX9_count_32 (by decide) (by decide) rfl (by decide) ?_
          refine lv_iconst (v := (-1)) hx hb dX9_count_191 (by decide) ?_
          refine W.iret (v := (-1)) hx hb hr (fun t ht hW => ⟨_, rfl, ?_, ht⟩) (fun _ h => nomatch h) dX9_count_192
          unfold qCount
          rw [if_neg (by decide), if_neg (by decide), if_neg (by decide), if_neg (by decide), if_neg (by decide), if_neg (by decide), if_neg (by decide), if_neg (by decide), if_neg (by decide), if_neg (by decide), if_neg (by decide), if_neg (by decide), if_neg (by decide)]
        · skip
          subst hsw3
          refine lv_tableIn (off := 159) (tgt := 191) hx hb dX9_count_32 (by decide) (by decide) rfl (by decide) ?_
          refine lv_iconst (v := (-1)) hx hb dX9_count_191 (by decide) ?_
          refine W.iret (v := (-1)) hx hb hr (fun t ht hW => ⟨_, rfl, ?_, ht⟩) (fun _ h => nomatch h) dX9_count_192
          unfold qCount
          rw [if_neg (by decide), if_neg (by decide), if_neg (by decide), if_neg (by decide), if_neg (by decide), if_neg (by decide), if_neg (by decide), if_neg (by decide), if_neg (by decide), if_neg (by decide), if_neg (by decide), if_neg (by decide), if_neg (by decide)]
        · skip
          subst hsw3
          refine lv_tableIn (off := 126) (tgt := 158) hx hb dX9_count_32 (by decide) (by decide) rfl (by decide) ?_
          refine lv_aload_n hx hb dX9_count_158 rfl (lv_at hl 0 rfl) ?_
          refine va_get (D := D) (T := TX9) (N := 51) hx hb hts jnX9 hown hK hP 55 (wd_55 y ad cap I J) rfl 0 (by decide) (hts _ fl_X9_105) (fun _ h9 => h9) rfl dX9_count_159 ?_
          refine lv_topi (fun v159 ev159 => ?_)
          obtain rfl : v159 = (nI (T 0 0)) := by
            rw [ev159]; exact hM.1.1
          refine W.iret (v := (nI (T 0 0))) hx hb hr (fun t ht hW => ⟨_, rfl, ?_, ht⟩) (fun _ h => nomatch h) dX9_count_162
          unfold qCount
          rw [if_neg (by decide), if_neg (by decide), if_neg (by decide), if_neg (by decide), if_neg (by decide), if_neg (by decide), if_neg (by decide), if_neg (by decide), if_pos rfl]
        · skip
          subst hsw3
          refine lv_tableIn (off := 131) (tgt := 163) hx hb dX9_count_32 (by decide) (by decide) rfl (by decide) ?_
          refine lv_aload_n hx hb dX9_count_163 rfl (lv_at hl 0 rfl) ?_
          refine va_get (D := D) (T := TX9) (N := 51) hx hb hts jnX9 hown hK hP 55 (wd_55 y ad cap I J) rfl 1 (by decide) (hts _ fl_X9_121) (fun _ h9 => h9) rfl dX9_count_164 ?_
          refine lv_topi (fun v164 ev164 => ?_)
          obtain rfl : v164 = (nI (T 0 1)) := by
            rw [ev164]; exact hM.1.2.1
          refine W.iret (v := (nI (T 0 1))) hx hb hr (fun t ht hW => ⟨_, rfl, ?_, ht⟩) (fun _ h => nomatch h) dX9_count_167
          unfold qCount
          rw [if_neg (by decide), if_neg (by decide), if_neg (by decide), if_neg (by decide), if_neg (by decide), if_neg (by decide), if_neg (by decide), if_neg (by decide), if_neg (by decide), if_pos rfl]
        · skip
          subst hsw3
          refine lv_tableIn (off := 136) (tgt := 168) hx hb dX9_count_32 (by decide) (by decide) rfl (by decide) ?_
          refine lv_aload_n hx hb dX9_count_168 rfl (lv_at hl 0 rfl) ?_
          refine va_get (D := D) (T := TX9) (N := 51) hx hb hts jnX9 hown hK hP 55 (wd_55 y ad cap I J) rfl 2 (by decide) (hts _ fl_X9_124) (fun _ h9 => h9) rfl dX9_count_169 ?_
          refine lv_topi (fun v169 ev169 => ?_)
          obtain rfl : v169 = (nI (T 0 2)) := by
            rw [ev169]; exact hM.1.2.2.1
          refine W.iret (v := (nI (T 0 2))) hx hb hr (fun t ht hW => ⟨_, rfl, ?_, ht⟩) (fun _ h => nomatch h) dX9_count_172
          unfold qCount
          rw [if_neg (by decide), if_neg (by decide), if_neg (by decide), if_neg (by decide), if_neg (by decide), if_neg (by decide), if_neg (by decide), if_neg (by decide), if_neg (by decide), if_neg (by decide), if_pos rfl]
        · skip
          subst hsw3
          refine lv_tableIn (off := 141) (tgt := 173) hx hb dX9_count_32 (by decide) (by decide) rfl (by decide) ?_
          refine lv_aload_n hx hb dX9_count_173 rfl (lv_at hl 0 rfl) ?_
          refine va_get (D := D) (T := TX9) (N := 51) hx hb hts jnX9 hown hK hP 55 (wd_55 y ad cap I J) rfl 3 (by decide) (hts _ fl_X9_114) (fun _ h9 => h9) rfl dX9_count_174 ?_
          refine lv_topi (fun v174 ev174 => ?_)
          obtain rfl : v174 = (nI (T 0 3)) := by
            rw [ev174]; exact hM.1.2.2.2.1
          refine W.iret (v := (nI (T 0 3))) hx hb hr (fun t ht hW => ⟨_, rfl, ?_, ht⟩) (fun _ h => nomatch h) dX9_count_177
          unfold qCount
          rw [if_neg (by decide), if_neg (by decide), if_neg (by decide), if_neg (by decide), if_neg (by decide), if_neg (by decide), if_neg (by decide), if_neg (by decide), if_neg (by decide), if_neg (by decide), if_neg (by decide), if_pos rfl]
        · skip
          subst hsw3
          refine lv_tableIn (off := 146) (tgt := 178) hx hb dX9_count_32 (by decide) (by decide) rfl (by decide) ?_
          refine lv_aload_n hx hb dX9_count_178 rfl (lv_at hl 0 rfl) ?_
          refine va_get (D := D) (T := TX9) (N := 51) hx hb hts jnX9 hown hK hP 55 (wd_55 y ad cap I J) rfl 19 (by decide) (hts _ fl_X9_117) (fun _ h9 => h9) rfl dX9_count_179 ?_
          refine lv_topi (fun v179 ev179 => ?_)
          obtain rfl : v179 = (nI fl) := by
            rw [ev179]; exact hfl.1
          refine lv_if_eq (tgt := 189) hx hb dX9_count_182 (by decide) (fun c182 => ?_) (fun c182 => ?_)
          · skip
            refine lv_iconst (v := 0) hx hb dX9_count_189 (by decide) ?_
            refine W.iret (v := 0) hx hb hr (fun t ht hW => ⟨_, rfl, ?_, ht⟩) (fun _ h => nomatch h) dX9_count_190
            unfold qCount
            rw [if_neg (by decide), if_neg (by decide), if_neg (by decide), if_neg (by decide), if_neg (by decide), if_neg (by decide), if_neg (by decide), if_neg (by decide), if_neg (by decide), if_neg (by decide), if_neg (by decide), if_neg (by decide), if_pos rfl]
            first | rw [show fl = 0 from (nI_z (by have := hfl.2; omega)).mp c182]; rfl | (rw [show fl = 1 from by have h9 := mt (nI_z (by have := hfl.2; omega)).mpr c182; have := hfl.2; omega]; rfl)
          · skip
            refine lv_iconst (v := 1) hx hb dX9_count_185 (by decide) ?_
            refine lv_goto (tgt := 190) hx hb dX9_count_186 (by decide) ?_
            refine W.iret (v := 1) hx hb hr (fun t ht hW => ⟨_, rfl, ?_, ht⟩) (fun _ h => nomatch h) dX9_count_190
            unfold qCount
            rw [if_neg (by decide), if_neg (by decide), if_neg (by decide), if_neg (by decide), if_neg (by decide), if_neg (by decide), if_neg (by decide), if_neg (by decide), if_neg (by decide), if_neg (by decide), if_neg (by decide), if_neg (by decide), if_pos rfl]
            first | rw [show fl = 0 from (nI_z (by have := hfl.2; omega)).mp c182]; rfl | (rw [show fl = 1 from by have h9 := mt (nI_z (by have := hfl.2; omega)).mpr c182; have := hfl.2; omega]; rfl)
    · skip
      have c7 := if01_n er4 c7
      
      refine lv_aload_n hx hb dX9_count_10 rfl (lv_at hl 0 rfl) ?_
      refine va_get (D := D) (T := TX9) (N := 51) hx hb hts jnX9 hown hK hP 55 (wd_55 y ad cap I J) rfl 20 (by decide) (hts _ fl_X9_187) (fun _ h9 => h9) rfl dX9_count_11 ?_
      refine lv_topi (fun v11 ev11 => ?_)
      obtain rfl : v11 = 1 := by
        rw [ev11]; exact m20
      refine lv_if_eq (tgt := 29) hx hb dX9_count_14 (by decide) (fun c14 => ?_) (fun c14 => ?_)
      · skip
        exact absurd c14 (by decide)
      · skip
        refine lv_iload_n hx hb dX9_count_17 rfl (lv_at hl 1 rfl) ?_
        refine lv_iconst (v := 5) hx hb dX9_count_18 (by decide) ?_
        refine lv_icmp_le (tgt := 31) hx hb dX9_count_19 (by decide) (fun c19 => ?_) (fun c19 => ?_)
        · skip
          
          refine lv_iload_n hx hb dX9_count_31 rfl (lv_at hl 1 rfl) ?_
          by_cases hsw : p1.toInt < 0 ∨ 14 < p1.toInt
          · skip
            refine lv_tableOut (tgt := 191) hx hb dX9_count_32 hsw (by decide) ?_
            refine lv_iconst (v := (-1)) hx hb dX9_count_191 (by decide) ?_
            refine W.iret (v := (-1)) hx hb hr (fun t ht hW => ⟨_, rfl, ?_, ht⟩) (fun _ h => nomatch h) dX9_count_192
            unfold qCount
            rw [if_neg (fun e => by rw [e] at hsw; exact absurd hsw (by decide)), if_neg (fun e => by rw [e] at hsw; exact absurd hsw (by decide)), if_neg (fun e => by rw [e] at hsw; exact absurd hsw (by decide)), if_neg (fun e => by rw [e] at hsw; exact absurd hsw (by decide)), if_neg (fun e => by rw [e] at hsw; exact absurd hsw (by decide)), if_neg (fun e => by rw [e] at hsw; exact absurd hsw (by decide)), if_neg (fun e => by rw [e] at hsw; exact absurd hsw (by decide)), if_neg (fun e => by rw [e] at hsw; exact absurd hsw (by decide)), if_neg (fun e => by rw [e] at hsw; exact absurd hsw (by decide)), if_neg (fun e => by rw [e] at hsw; exact absurd hsw (by decide)), if_neg (fun e => by rw [e] at hsw; exact absurd hsw (by decide)), if_neg (fun e => by rw [e] at hsw; exact absurd hsw (by decide)), if_neg (fun e => by rw [e] at hsw; exact absurd hsw (by decide))]
          · skip
            have hsw2 : p1 = 0 ∨ p1 = 1 ∨ p1 = 2 ∨ p1 = 3 ∨ p1 = 4 ∨ p1 = 5 ∨ p1 = 6 ∨ p1 = 7 ∨ p1 = 8 ∨ p1 = 9 ∨ p1 = 10 ∨ p1 = 11 ∨ p1 = 12 ∨ p1 = 13 ∨ p1 = 14 := by
              have h1 : p1.toInt = 0 ∨ p1.toInt = 1 ∨ p1.toInt = 2 ∨ p1.toInt = 3 ∨ p1.toInt = 4 ∨ p1.toInt = 5 ∨ p1.toInt = 6 ∨ p1.toInt = 7 ∨ p1.toInt = 8 ∨ p1.toInt = 9 ∨ p1.toInt = 10 ∨ p1.toInt = 11 ∨ p1.toInt = 12 ∨ p1.toInt = 13 ∨ p1.toInt = 14 := by omega
              rcases h1 with h1 | h1 | h1 | h1 | h1 | h1 | h1 | h1 | h1 | h1 | h1 | h1 | h1 | h1 | h1
              · exact Or.inl (Int32.toInt_inj.mp h1)
              · exact Or.inr (Or.inl (Int32.toInt_inj.mp h1))
              · exact Or.inr (Or.inr (Or.inl (Int32.toInt_inj.mp h1)))
              · exact Or.inr (Or.inr (Or.inr (Or.inl (Int32.toInt_inj.mp h1))))
              · exact Or.inr (Or.inr (Or.inr (Or.inr (Or.inl (Int32.toInt_inj.mp h1)))))
              · exact Or.inr (Or.inr (Or.inr (Or.inr (Or.inr (Or.inl (Int32.toInt_inj.mp h1))))))
              · exact Or.inr (Or.inr (Or.inr (Or.inr (Or.inr (Or.inr (Or.inl (Int32.toInt_inj.mp h1)))))))
              · exact Or.inr (Or.inr (Or.inr (Or.inr (Or.inr (Or.inr (Or.inr (Or.inl (Int32.toInt_inj.mp h1))))))))
              · exact Or.inr (Or.inr (Or.inr (Or.inr (Or.inr (Or.inr (Or.inr (Or.inr (Or.inl (Int32.toInt_inj.mp h1)))))))))
              · exact Or.inr (Or.inr (Or.inr (Or.inr (Or.inr (Or.inr (Or.inr (Or.inr (Or.inr (Or.inl (Int32.toInt_inj.mp h1))))))))))
              · exact Or.inr (Or.inr (Or.inr (Or.inr (Or.inr (Or.inr (Or.inr (Or.inr (Or.inr (Or.inr (Or.inl (Int32.toInt_inj.mp h1)))))))))))
              · exact Or.inr (Or.inr (Or.inr (Or.inr (Or.inr (Or.inr (Or.inr (Or.inr (Or.inr (Or.inr (Or.inr (Or.inl (Int32.toInt_inj.mp h1))))))))))))
              · exact Or.inr (Or.inr (Or.inr (Or.inr (Or.inr (Or.inr (Or.inr (Or.inr (Or.inr (Or.inr (Or.inr (Or.inr (Or.inl (Int32.toInt_inj.mp h1)))))))))))))
              · exact Or.inr (Or.inr (Or.inr (Or.inr (Or.inr (Or.inr (Or.inr (Or.inr (Or.inr (Or.inr (Or.inr (Or.inr (Or.inr (Or.inl (Int32.toInt_inj.mp h1))))))))))))))
              · exact Or.inr (Or.inr (Or.inr (Or.inr (Or.inr (Or.inr (Or.inr (Or.inr (Or.inr (Or.inr (Or.inr (Or.inr (Or.inr (Or.inr (Int32.toInt_inj.mp h1))))))))))))))
            rcases hsw2 with hsw3 | hsw3 | hsw3 | hsw3 | hsw3 | hsw3 | hsw3 | hsw3 | hsw3 | hsw3 | hsw3 | hsw3 | hsw3 | hsw3 | hsw3
            · skip
              subst hsw3
              refine lv_tableIn (off := 76) (tgt := 108) hx hb dX9_count_32 (by decide) (by decide) rfl (by decide) ?_
              refine lv_aload_n hx hb dX9_count_108 rfl (lv_at hl 0 rfl) ?_
              refine va_get (D := D) (T := TX9) (N := 51) hx hb hts jnX9 hown hK hP 55 (wd_55 y ad cap I J) rfl 25 (by decide) (hts _ fl_X9_177) (fun _ h9 => h9) rfl dX9_count_109 ?_
              refine lv_topi (fun v109 ev109 => ?_)
              obtain rfl : v109 = (nI R) := by
                rw [ev109]; exact m25
              refine W.iret (v := (nI R)) hx hb hr (fun t ht hW => ⟨_, rfl, ?_, ht⟩) (fun _ h => nomatch h) dX9_count_112
              unfold qCount
              rw [if_pos rfl]
            · skip
              subst hsw3
              refine lv_tableIn (off := 81) (tgt := 113) hx hb dX9_count_32 (by decide) (by decide) rfl (by decide) ?_
              refine lv_aload_n hx hb dX9_count_113 rfl (lv_at hl 0 rfl) ?_
              refine va_get (D := D) (T := TX9) (N := 51) hx hb hts jnX9 hown hK hP 55 (wd_55 y ad cap I J) rfl 24 (by decide) (hts _ fl_X9_180) (fun _ h9 => h9) rfl dX9_count_114 ?_
              refine lv_topi (fun v114 ev114 => ?_)
              obtain rfl : v114 = (nI M.length) := by
                rw [ev114]; exact m24
              refine W.iret (v := (nI M.length)) hx hb hr (fun t ht hW => ⟨_, rfl, ?_, ht⟩) (fun _ h => nomatch h) dX9_count_117
              unfold qCount
              rw [if_neg (by decide), if_pos rfl]
            · skip
              subst hsw3
              refine lv_tableIn (off := 86) (tgt := 118) hx hb dX9_count_32 (by decide) (by decide) rfl (by decide) ?_
              refine lv_aload_n hx hb dX9_count_118 rfl (lv_at hl 0 rfl) ?_
              refine lv_iconst (v := 0) hx hb dX9_count_119 (by decide) ?_
              refine rk_i (run_v (As := [.int 0]) (rest := []) (b := (ad 55)) hx hb hml hown hO.2 (c_X9_ways l D y ad cap I J hML0 hW0 (p0 := 0) (v0 := 0) (by omega) rfl) k_X9_ways ml_X9_208 ⟨rfl, rfl⟩ ⟨Nat.le_of_ble_eq_true rfl, Nat.le_of_ble_eq_true rfl⟩ (pre_VR hO hP (wd_55 y ad cap I J) rfl) rfl hl.1 rfl (Nat.le_of_ble_eq_true rfl) dX9_count_120 ⟨(Nat.zero_le _), (Nat.zero_le _)⟩) (fun r120 er120 => ?_)
              try dsimp only at er120
              obtain rfl : r120 = (nI (wc TL M 0 (TL 0 2))) := by
                exact er120
              refine W.iret (v := (nI (wc TL M 0 (TL 0 2)))) hx hb hr (fun t ht hW => ⟨_, rfl, ?_, ht⟩) (fun _ h => nomatch h) dX9_count_123
              unfold qCount
              rw [if_neg (by decide), if_neg (by decide), if_pos rfl]
            · skip
              subst hsw3
              refine lv_tableIn (off := 92) (tgt := 124) hx hb dX9_count_32 (by decide) (by decide) rfl (by decide) ?_
              refine lv_aload_n hx hb dX9_count_124 rfl (lv_at hl 0 rfl) ?_
              refine lv_iconst (v := 1) hx hb dX9_count_125 (by decide) ?_
              refine rk_i (run_v (As := [.int 1]) (rest := []) (b := (ad 55)) hx hb hml hown hO.2 (c_X9_ways l D y ad cap I J hML0 hW0 (p0 := 1) (v0 := 1) (by omega) rfl) k_X9_ways ml_X9_208 ⟨rfl, rfl⟩ ⟨Nat.le_of_ble_eq_true rfl, Nat.le_of_ble_eq_true rfl⟩ (pre_VR hO hP (wd_55 y ad cap I J) rfl) rfl hl.1 rfl (Nat.le_of_ble_eq_true rfl) dX9_count_126 ⟨(Nat.zero_le _), (Nat.zero_le _)⟩) (fun r126 er126 => ?_)
              try dsimp only at er126
              obtain rfl : r126 = (nI (wc TL M 1 (TL 0 2))) := by
                exact er126
              refine W.iret (v := (nI (wc TL M 1 (TL 0 2)))) hx hb hr (fun t ht hW => ⟨_, rfl, ?_, ht⟩) (fun _ h => nomatch h) dX9_count_129
              unfold qCount
              rw [if_neg (by decide), if_neg (by decide), if_neg (by decide), if_pos rfl]
            · skip
              subst hsw3
              refine lv_tableIn (off := 98) (tgt := 130) hx hb dX9_count_32 (by decide) (by decide) rfl (by decide) ?_
              refine lv_aload_n hx hb dX9_count_130 rfl (lv_at hl 0 rfl) ?_
              refine lv_iconst (v := 2) hx hb dX9_count_131 (by decide) ?_
              refine rk_i (run_v (As := [.int 2]) (rest := []) (b := (ad 55)) hx hb hml hown hO.2 (c_X9_ways l D y ad cap I J hML0 hW0 (p0 := 2) (v0 := 2) (by omega) rfl) k_X9_ways ml_X9_208 ⟨rfl, rfl⟩ ⟨Nat.le_of_ble_eq_true rfl, Nat.le_of_ble_eq_true rfl⟩ (pre_VR hO hP (wd_55 y ad cap I J) rfl) rfl hl.1 rfl (Nat.le_of_ble_eq_true rfl) dX9_count_132 ⟨(Nat.zero_le _), (Nat.zero_le _)⟩) (fun r132 er132 => ?_)
              try dsimp only at er132
              obtain rfl : r132 = (nI (wc TL M 2 (TL 0 2))) := by
                exact er132
              refine W.iret (v := (nI (wc TL M 2 (TL 0 2)))) hx hb hr (fun t ht hW => ⟨_, rfl, ?_, ht⟩) (fun _ h => nomatch h) dX9_count_135
              unfold qCount
              rw [if_neg (by decide), if_neg (by decide), if_neg (by decide), if_neg (by decide), if_pos rfl]
            · skip
              subst hsw3
              refine lv_tableIn (off := 104) (tgt := 136) hx hb dX9_count_32 (by decide) (by decide) rfl (by decide) ?_
              refine lv_aload_n hx hb dX9_count_136 rfl (lv_at hl 0 rfl) ?_
              refine rk_i (run_v (As := []) (rest := []) (b := (ad 55)) hx hb hml hown hO.2 (c_X9_idle l D y ad cap I J hML0 hW0) k_X9_idle ml_X9_212 ⟨rfl, rfl⟩ ⟨Nat.le_of_ble_eq_true rfl, Nat.le_of_ble_eq_true rfl⟩ (pre_VR hO hP (wd_55 y ad cap I J) rfl) rfl hl.1 rfl (Nat.le_of_ble_eq_true rfl) dX9_count_137 ⟨(Nat.zero_le _), (Nat.zero_le _)⟩) (fun r137 er137 => ?_)
              try dsimp only at er137
              obtain rfl : r137 = (nI (nuls (fun t => us TL M t (TL 0 2)) M.length)) := by
                exact er137
              refine W.iret (v := (nI (nuls (fun t => us TL M t (TL 0 2)) M.length))) hx hb hr (fun t ht hW => ⟨_, rfl, ?_, ht⟩) (fun _ h => nomatch h) dX9_count_140
              unfold qCount
              rw [if_neg (by decide), if_neg (by decide), if_neg (by decide), if_neg (by decide), if_neg (by decide), if_pos rfl]
            · skip
              subst hsw3
              exact absurd c19 (by decide)
            · skip
              subst hsw3
              exact absurd c19 (by decide)
            · skip
              subst hsw3
              exact absurd c7 (by decide)
            · skip
              subst hsw3
              exact absurd c7 (by decide)
            · skip
              subst hsw3
              exact absurd c7 (by decide)
            · skip
              subst hsw3
              exact absurd c7 (by decide)
            · skip
              subst hsw3
              exact absurd c7 (by decide)
            · skip
              subst hsw3
              exact absurd c7 (by decide)
            · skip
              subst hsw3
              exact absurd c7 (by decide)
        · skip
          
          refine lv_aload_n hx hb dX9_count_22 rfl (lv_at hl 0 rfl) ?_
          refine va_get (D := D) (T := TX9) (N := 51) hx hb hts jnX9 hown hK hP 55 (wd_55 y ad cap I J) rfl 21 (by decide) (hts _ fl_X9_190) (fun _ h9 => h9) rfl dX9_count_23 ?_
          refine lv_topi (fun v23 ev23 => ?_)
          obtain rfl : v23 = (nI (TL 0 0)) := by
            rw [ev23]; exact m21
          refine lv_if_ne (tgt := 31) hx hb dX9_count_26 (by decide) (fun c26 => ?_) (fun c26 => ?_)
          · skip
            refine lv_iload_n hx hb dX9_count_31 rfl (lv_at hl 1 rfl) ?_
            by_cases hsw : p1.toInt < 0 ∨ 14 < p1.toInt
            · skip
              refine lv_tableOut (tgt := 191) hx hb dX9_count_32 hsw (by decide) ?_
              refine lv_iconst (v := (-1)) hx hb dX9_count_191 (by decide) ?_
              refine W.iret (v := (-1)) hx hb hr (fun t ht hW => ⟨_, rfl, ?_, ht⟩) (fun _ h => nomatch h) dX9_count_192
              unfold qCount
              rw [if_neg (fun e => by rw [e] at hsw; exact absurd hsw (by decide)), if_neg (fun e => by rw [e] at hsw; exact absurd hsw (by decide)), if_neg (fun e => by rw [e] at hsw; exact absurd hsw (by decide)), if_neg (fun e => by rw [e] at hsw; exact absurd hsw (by decide)), if_neg (fun e => by rw [e] at hsw; exact absurd hsw (by decide)), if_neg (fun e => by rw [e] at hsw; exact absurd hsw (by decide)), if_neg (fun e => by rw [e] at hsw; exact absurd hsw (by decide)), if_neg (fun e => by rw [e] at hsw; exact absurd hsw (by decide)), if_neg (fun e => by rw [e] at hsw; exact absurd hsw (by decide)), if_neg (fun e => by rw [e] at hsw; exact absurd hsw (by decide)), if_neg (fun e => by rw [e] at hsw; exact absurd hsw (by decide)), if_neg (fun e => by rw [e] at hsw; exact absurd hsw (by decide)), if_neg (fun e => by rw [e] at hsw; exact absurd hsw (by decide))]
            · skip
              have hsw2 : p1 = 0 ∨ p1 = 1 ∨ p1 = 2 ∨ p1 = 3 ∨ p1 = 4 ∨ p1 = 5 ∨ p1 = 6 ∨ p1 = 7 ∨ p1 = 8 ∨ p1 = 9 ∨ p1 = 10 ∨ p1 = 11 ∨ p1 = 12 ∨ p1 = 13 ∨ p1 = 14 := by
                have h1 : p1.toInt = 0 ∨ p1.toInt = 1 ∨ p1.toInt = 2 ∨ p1.toInt = 3 ∨ p1.toInt = 4 ∨ p1.toInt = 5 ∨ p1.toInt = 6 ∨ p1.toInt = 7 ∨ p1.toInt = 8 ∨ p1.toInt = 9 ∨ p1.toInt = 10 ∨ p1.toInt = 11 ∨ p1.toInt = 12 ∨ p1.toInt = 13 ∨ p1.toInt = 14 := by omega
                rcases h1 with h1 | h1 | h1 | h1 | h1 | h1 | h1 | h1 | h1 | h1 | h1 | h1 | h1 | h1 | h1
                · exact Or.inl (Int32.toInt_inj.mp h1)
                · exact Or.inr (Or.inl (Int32.toInt_inj.mp h1))
                · exact Or.inr (Or.inr (Or.inl (Int32.toInt_inj.mp h1)))
                · exact Or.inr (Or.inr (Or.inr (Or.inl (Int32.toInt_inj.mp h1))))
                · exact Or.inr (Or.inr (Or.inr (Or.inr (Or.inl (Int32.toInt_inj.mp h1)))))
                · exact Or.inr (Or.inr (Or.inr (Or.inr (Or.inr (Or.inl (Int32.toInt_inj.mp h1))))))
                · exact Or.inr (Or.inr (Or.inr (Or.inr (Or.inr (Or.inr (Or.inl (Int32.toInt_inj.mp h1)))))))
                · exact Or.inr (Or.inr (Or.inr (Or.inr (Or.inr (Or.inr (Or.inr (Or.inl (Int32.toInt_inj.mp h1))))))))
                · exact Or.inr (Or.inr (Or.inr (Or.inr (Or.inr (Or.inr (Or.inr (Or.inr (Or.inl (Int32.toInt_inj.mp h1)))))))))
                · exact Or.inr (Or.inr (Or.inr (Or.inr (Or.inr (Or.inr (Or.inr (Or.inr (Or.inr (Or.inl (Int32.toInt_inj.mp h1))))))))))
                · exact Or.inr (Or.inr (Or.inr (Or.inr (Or.inr (Or.inr (Or.inr (Or.inr (Or.inr (Or.inr (Or.inl (Int32.toInt_inj.mp h1)))))))))))
                · exact Or.inr (Or.inr (Or.inr (Or.inr (Or.inr (Or.inr (Or.inr (Or.inr (Or.inr (Or.inr (Or.inr (Or.inl (Int32.toInt_inj.mp h1))))))))))))
                · exact Or.inr (Or.inr (Or.inr (Or.inr (Or.inr (Or.inr (Or.inr (Or.inr (Or.inr (Or.inr (Or.inr (Or.inr (Or.inl (Int32.toInt_inj.mp h1)))))))))))))
                · exact Or.inr (Or.inr (Or.inr (Or.inr (Or.inr (Or.inr (Or.inr (Or.inr (Or.inr (Or.inr (Or.inr (Or.inr (Or.inr (Or.inl (Int32.toInt_inj.mp h1))))))))))))))
                · exact Or.inr (Or.inr (Or.inr (Or.inr (Or.inr (Or.inr (Or.inr (Or.inr (Or.inr (Or.inr (Or.inr (Or.inr (Or.inr (Or.inr (Int32.toInt_inj.mp h1))))))))))))))
              rcases hsw2 with hsw3 | hsw3 | hsw3 | hsw3 | hsw3 | hsw3 | hsw3 | hsw3 | hsw3 | hsw3 | hsw3 | hsw3 | hsw3 | hsw3 | hsw3
              · skip
                subst hsw3
                exact absurd (show (0 : Int32) ≤ 5 by decide) c19
              · skip
                subst hsw3
                exact absurd (show (1 : Int32) ≤ 5 by decide) c19
              · skip
                subst hsw3
                exact absurd (show (2 : Int32) ≤ 5 by decide) c19
              · skip
                subst hsw3
                exact absurd (show (3 : Int32) ≤ 5 by decide) c19
              · skip
                subst hsw3
                exact absurd (show (4 : Int32) ≤ 5 by decide) c19
              · skip
                subst hsw3
                exact absurd (show (5 : Int32) ≤ 5 by decide) c19
              · skip
                subst hsw3
                refine lv_tableIn (off := 109) (tgt := 141) hx hb dX9_count_32 (by decide) (by decide) rfl (by decide) ?_
                refine lv_aload_n hx hb dX9_count_141 rfl (lv_at hl 0 rfl) ?_
                refine rk_l (run_v (As := []) (rest := []) (b := (ad 55)) hx hb hml hown hO.2 (c_X9_between l D y ad cap I J hML0 hW0) k_X9_between ml_X9_215 ⟨rfl, rfl⟩ ⟨Nat.le_of_ble_eq_true rfl, Nat.le_of_ble_eq_true rfl⟩ (pre_VR hO hP (wd_55 y ad cap I J) rfl) rfl hl.1 rfl (Nat.le_of_ble_eq_true rfl) dX9_count_142 ⟨(Nat.zero_le _), (Nat.zero_le _)⟩) (fun r142 er142 => ?_)
                try dsimp only at er142
                refine lv_l2i hx hb dX9_count_145 rfl ?_
                refine lv_topi (fun v145 ev145 => ?_)
                obtain rfl : v145 = (iN ((sAt TL (cnt M) (TL 0 0) : Int) - TL 0 4 - M.length * TL 0 5 - ((sumS TL (TL 0 0) : Nat) : Int))) := by
                  rw [ev145, er142, zN_i]
                refine W.iret (v := (iN ((sAt TL (cnt M) (TL 0 0) : Int) - TL 0 4 - M.length * TL 0 5 - ((sumS TL (TL 0 0) : Nat) : Int)))) hx hb hr (fun t ht hW => ⟨_, rfl, ?_, ht⟩) (fun _ h => nomatch h) dX9_count_146
                unfold qCount
                rw [if_neg (by decide), if_neg (by decide), if_neg (by decide), if_neg (by decide), if_neg (by decide), if_neg (by decide), if_pos rfl]
              · skip
                subst hsw3
                refine lv_tableIn (off := 115) (tgt := 147) hx hb dX9_count_32 (by decide) (by decide) rfl (by decide) ?_
                refine lv_aload_n hx hb dX9_count_147 rfl (lv_at hl 0 rfl) ?_
                refine va_get (D := D) (T := TX9) (N := 51) hx hb hts jnX9 hown hK hP 55 (wd_55 y ad cap I J) rfl 27 (by decide) (hts _ fl_X9_143) (fun _ h9 => h9) rfl dX9_count_148 ?_
                refine lv_topl (fun v148 ev148 => ?_)
                obtain rfl : v148 = (lN (sAt TL (cnt M) (TL 0 0))) := by
                  rw [ev148]; exact hA.2.2.2.2
                refine lv_aload_n hx hb dX9_count_151 rfl (lv_at hl 0 rfl) ?_
                refine va_get (D := D) (T := TX9) (N := 51) hx hb hts jnX9 hown hK hP 55 (wd_55 y ad cap I J) rfl 26 (by decide) (hts _ fl_X9_199) (fun _ h9 => h9) rfl dX9_count_152 ?_
                refine lv_topl (fun v152 ev152 => ?_)
                obtain rfl : v152 = (lN (TL 0 4)) := by
                  rw [ev152]; exact m26
                refine lv_lsub hx hb dX9_count_155 ?_
                refine lv_topl (fun v155 ev155 => ?_)
                refine lv_l2i hx hb dX9_count_156 rfl ?_
                refine lv_topi (fun v156 ev156 => ?_)
                obtain rfl : v156 = (nI (sAt TL (cnt M) (TL 0 0) - TL 0 4)) := by
                  rw [ev156, ev155, lN_sub (sAt_ge _), lN_i]
                refine W.iret (v := (nI (sAt TL (cnt M) (TL 0 0) - TL 0 4))) hx hb hr (fun t ht hW => ⟨_, rfl, ?_, ht⟩) (fun _ h => nomatch h) dX9_count_157
                unfold qCount
                rw [if_neg (by decide), if_neg (by decide), if_neg (by decide), if_neg (by decide), if_neg (by decide), if_neg (by decide), if_neg (by decide), if_pos rfl]
              · skip
                subst hsw3
                exact absurd c7 (by decide)
              · skip
                subst hsw3
                exact absurd c7 (by decide)
              · skip
                subst hsw3
                exact absurd c7 (by decide)
              · skip
                subst hsw3
                exact absurd c7 (by decide)
              · skip
                subst hsw3
                exact absurd c7 (by decide)
              · skip
                subst hsw3
                exact absurd c7 (by decide)
              · skip
                subst hsw3
                exact absurd c7 (by decide)
          · skip
            refine lv_iconst (v := 0) hx hb dX9_count_29 (by decide) ?_
            refine W.iret (v := 0) hx hb hr (fun t ht hW => ⟨_, rfl, ?_, ht⟩) (fun _ h => nomatch h) dX9_count_30
            exact (q_67 ((nI_z (by omega)).mp c26) (TW_none hTWM ((nI_z (by omega)).mp c26)) c7 c19).symm
theorem a_un {TL : Nat → Nat → Nat} (hz : ∀ r j, TL r j = 0) {p q : Int32} : qAddr TL [] p q = -9223372036854775808 := by
  have e : ∀ n, n = 0 → ix n q = none := fun n hn => by
    subst hn
    exact ix_no (fun h9 => h9.2 (Int32.not_lt.mp h9.1))
  unfold qAddr
  rw [e _ (hz 0 0), e _ (hz 0 1), e _ (hz 0 2), e _ (rfl : ([] : List Th).length = 0)]
  simp
theorem a_neg {TL : Nat → Nat → Nat} {M : List Th} {p q : Int32} (h : q < 0) : qAddr TL M p q = -9223372036854775808 := by
  have e : ∀ n, ix n q = none := fun n => ix_no (fun h9 => h9.1 h)
  unfold qAddr
  rw [e, e, e, e]
  simp
set_option maxHeartbeats 4000000 in
set_option maxRecDepth 100000 in
theorem c_X9_address (l : Launch) (D : va_G) (y : Nat → ClassId) (ad : Nat → Nat) (cap : Nat → Nat) (I : Nat → Nat → Int32) (J : Nat → Nat → Int64) {TL : Nat → Nat → Nat} {M : List Th} {R : Nat} (hX : MLx I J TL M R) (hW : WF TL) (p1 p2 : Int32) : Met l yX9_address [.code yX9_address cX9_address 3 (some .long)] ({ frames := 0, cells := 0, slots := 0, locals := 0 }) (va_Pc [.ref (ad 55), .int p1, .int p2] (PR D y (Wd y ad cap I J))) (vp_Sl (fun r => r = qAddr TL M p1 p2)) 0 0 (fun _ => False) := by
  refine Met.ofW (cc := cX9_address) (maxL := 3) (ret := (some .long)) (by decide) rfl ?_
  intro p e s m args below meth c s₁ B hml hv
  obtain ⟨rfl, hP, hO⟩ := hv
  have hx := B.exec
  have hb := B.bytes
  have hr := B.returns
  have hown : s.vm.findClass RX9 = some m.cls := findClass_of_methodNamed B.named
  have hlocks := B.notSynchronized
  have hK := hO.1
  have hts : ∀ w ∈ lw_E, w.before ([.ref (ad 55), .int p1, .int p2] : List Value).toArray s = true := fun w h => hO.2 w h _
  clear B
  have hl := lv_entry ([.ref (ad 55), .int p1, .int p2]) (n := 3) (Nat.le_of_ble_eq_true rfl)
  rw [lg_entry_eq]
  generalize (lg_sl ([.ref (ad 55), .int p1, .int p2]) ++ List.replicate (3 - (lg_sl ([.ref (ad 55), .int p1, .int p2])).length) Slot.unset).toArray = ls at hl ⊢
  have hl : lv_has ls 3 [(0, .ref (ad 55)), (1, .int p1), (2, .int p2)] := hl
  rcases hX with hX | hML
  · skip
    obtain ⟨m20, hz, rfl, rfl⟩ := hX
    refine lv_aload_n hx hb dX9_address_0 rfl (lv_at hl 0 rfl) ?_
    refine va_get (D := D) (T := TX9) (N := 51) hx hb hts jnX9 hown hK hP 55 (wd_55 y ad cap I J) rfl 20 (by decide) (hts _ fl_X9_187) (fun _ h9 => h9) rfl dX9_address_1 ?_
    refine lv_topi (fun v1 ev1 => ?_)
    obtain rfl : v1 = 0 := by
      rw [ev1]; exact m20
    refine lv_if_eq (tgt := 11) hx hb dX9_address_4 (by decide) (fun c4 => ?_) (fun c4 => ?_)
    · skip
      refine lv_ldc2 (v := (-9223372036854775808)) hx hb hown (hts _ kc_X9_219) dX9_address_11 ?_
      refine W.lret (v := (-9223372036854775808)) hx hb hr (fun t ht hW => ⟨_, rfl, ?_, ht⟩) (fun _ h => nomatch h) dX9_address_14
      exact (a_un hz).symm
    · skip
      exact absurd c4 (by decide)
  · skip
    have hML0 := hML
    obtain ⟨⟨m20, m21, m22, m23, m24, m25, m40, m41, m26⟩, ⟨hTWM, htz0⟩, m69, hK9, mB, mT, hA⟩ := hML
    have hW0 := hW
    obtain ⟨⟨w1, w2, w3, w4, w5, w6, w7⟩, wS, wL, wB, wK, wTk, wT0⟩ := hW
    have hlM : M.length ≤ 2400 := TW_len hW0 hTWM
    have hnM : ∀ s, cnt M s ≤ 2400 := fun s => Nat.le_trans (cnt_le M s) hlM
    refine lv_aload_n hx hb dX9_address_0 rfl (lv_at hl 0 rfl) ?_
    refine va_get (D := D) (T := TX9) (N := 51) hx hb hts jnX9 hown hK hP 55 (wd_55 y ad cap I J) rfl 20 (by decide) (hts _ fl_X9_187) (fun _ h9 => h9) rfl dX9_address_1 ?_
    refine lv_topi (fun v1 ev1 => ?_)
    obtain rfl : v1 = 1 := by
      rw [ev1]; exact m20
    refine lv_if_eq (tgt := 11) hx hb dX9_address_4 (by decide) (fun c4 => ?_) (fun c4 => ?_)
    · skip
      exact absurd c4 (by decide)
    · skip
      refine lv_iload_n hx hb dX9_address_7 rfl (lv_at hl 2 rfl) ?_
      refine lv_if_ge (tgt := 15) hx hb dX9_address_8 (by decide) (fun c8 => ?_) (fun c8 => ?_)
      · skip
        refine lv_iload_n hx hb dX9_address_15 rfl (lv_at hl 1 rfl) ?_
        by_cases hsw : p1.toInt < 0 ∨ 4 < p1.toInt
        · skip
          refine lv_tableOut (tgt := 166) hx hb dX9_address_16 hsw (by decide) ?_
          refine lv_ldc2 (v := (-9223372036854775808)) hx hb hown (hts _ kc_X9_219) dX9_address_166 ?_
          refine W.lret (v := (-9223372036854775808)) hx hb hr (fun t ht hW => ⟨_, rfl, ?_, ht⟩) (fun _ h => nomatch h) dX9_address_169
          unfold qAddr
          rw [if_neg (fun e => by rw [e] at hsw; exact absurd hsw (by decide)), if_neg (fun e => by rw [e] at hsw; exact absurd hsw (by decide)), if_neg (fun e => by rw [e] at hsw; exact absurd hsw (by decide)), if_neg (fun e => by rw [e] at hsw; exact absurd hsw (by decide)), if_neg (fun e => by rw [e] at hsw; exact absurd hsw (by decide))]
        · skip
          have hsw2 : p1 = 0 ∨ p1 = 1 ∨ p1 = 2 ∨ p1 = 3 ∨ p1 = 4 := by
            have h1 : p1.toInt = 0 ∨ p1.toInt = 1 ∨ p1.toInt = 2 ∨ p1.toInt = 3 ∨ p1.toInt = 4 := by omega
            rcases h1 with h1 | h1 | h1 | h1 | h1
            · exact Or.inl (Int32.toInt_inj.mp h1)
            · exact Or.inr (Or.inl (Int32.toInt_inj.mp h1))
            · exact Or.inr (Or.inr (Or.inl (Int32.toInt_inj.mp h1)))
            · exact Or.inr (Or.inr (Or.inr (Or.inl (Int32.toInt_inj.mp h1))))
            · exact Or.inr (Or.inr (Or.inr (Or.inr (Int32.toInt_inj.mp h1))))
          rcases hsw2 with hsw3 | hsw3 | hsw3 | hsw3 | hsw3
          · skip
            subst hsw3
            refine lv_tableIn (off := 36) (tgt := 52) hx hb dX9_address_16 (by decide) (by decide) rfl (by decide) ?_
            refine lv_iload_n hx hb dX9_address_52 rfl (lv_at hl 2 rfl) ?_
            refine lv_aload_n hx hb dX9_address_53 rfl (lv_at hl 0 rfl) ?_
            refine va_get (D := D) (T := TX9) (N := 51) hx hb hts jnX9 hown hK hP 55 (wd_55 y ad cap I J) rfl 21 (by decide) (hts _ fl_X9_190) (fun _ h9 => h9) rfl dX9_address_54 ?_
            refine lv_topi (fun v54 ev54 => ?_)
            obtain rfl : v54 = (nI (TL 0 0)) := by
              rw [ev54]; exact m21
            refine lv_icmp_ge (tgt := 69) hx hb dX9_address_57 (by decide) (fun c57 => ?_) (fun c57 => ?_)
            · skip
              refine lv_ldc2 (v := (-9223372036854775808)) hx hb hown (hts _ kc_X9_219) dX9_address_69 ?_
              refine W.lret (v := (-9223372036854775808)) hx hb hr (fun t ht hW => ⟨_, rfl, ?_, ht⟩) (fun _ h => nomatch h) dX9_address_72
              unfold qAddr
              rw [if_pos rfl]
              first | (rw [ix_no (fun h9 => h9.2 c57)]; done) | (rw [ix_in (n := TL 0 0) (by omega) hj0]; done)
            · skip
              obtain ⟨j0, j1, hj0⟩ := ix_lt (n := TL 0 0) (by omega) (Int32.not_lt.mpr c8) c57
              subst j1
              refine lv_aload_n hx hb dX9_address_60 rfl (lv_at hl 0 rfl) ?_
              refine va_get (D := D) (T := TX9) (N := 51) hx hb hts jnX9 hown hK hP 55 (wd_55 y ad cap I J) rfl 28 (by decide) (hts _ fl_X9_44) (fun _ h9 => h9) rfl dX9_address_61 ?_
              refine lv_iload_n hx hb dX9_address_64 rfl (lv_at hl 2 rfl) ?_
              refine va_lald (D := D) hx hb hK hP 67 1 (wd_67 y ad cap I J) rfl (vp_in_nI (by omega) (by omega)) dX9_address_65 ?_
              rw [nI_clamp (n := j0) (by omega)]
              refine lv_topl (fun v65 ev65 => ?_)
              obtain rfl : v65 = (lN (sA TL (cnt M) j0)) := by
                rw [ev65]; exact (hA.1 _ (by omega)).1
              refine lv_goto (tgt := 72) hx hb dX9_address_66 (by decide) ?_
              refine W.lret (v := (lN (sA TL (cnt M) j0))) hx hb hr (fun t ht hW => ⟨_, rfl, ?_, ht⟩) (fun _ h => nomatch h) dX9_address_72
              unfold qAddr
              rw [if_pos rfl]
              first | (rw [ix_no (fun h9 => h9.2 c57)]; done) | (rw [ix_in (n := TL 0 0) (by omega) hj0]; done)
          · skip
            subst hsw3
            refine lv_tableIn (off := 57) (tgt := 73) hx hb dX9_address_16 (by decide) (by decide) rfl (by decide) ?_
            refine lv_iload_n hx hb dX9_address_73 rfl (lv_at hl 2 rfl) ?_
            refine lv_aload_n hx hb dX9_address_74 rfl (lv_at hl 0 rfl) ?_
            refine va_get (D := D) (T := TX9) (N := 51) hx hb hts jnX9 hown hK hP 55 (wd_55 y ad cap I J) rfl 22 (by decide) (hts _ fl_X9_193) (fun _ h9 => h9) rfl dX9_address_75 ?_
            refine lv_topi (fun v75 ev75 => ?_)
            obtain rfl : v75 = (nI (TL 0 1)) := by
              rw [ev75]; exact m22
            refine lv_icmp_ge (tgt := 90) hx hb dX9_address_78 (by decide) (fun c78 => ?_) (fun c78 => ?_)
            · skip
              refine lv_ldc2 (v := (-9223372036854775808)) hx hb hown (hts _ kc_X9_219) dX9_address_90 ?_
              refine W.lret (v := (-9223372036854775808)) hx hb hr (fun t ht hW => ⟨_, rfl, ?_, ht⟩) (fun _ h => nomatch h) dX9_address_93
              unfold qAddr
              rw [if_neg (by decide), if_pos rfl]
              first | (rw [ix_no (fun h9 => h9.2 c78)]; done) | (rw [ix_in (n := TL 0 1) (by omega) hj0]; done)
            · skip
              obtain ⟨j0, j1, hj0⟩ := ix_lt (n := TL 0 1) (by omega) (Int32.not_lt.mpr c8) c78
              subst j1
              refine lv_aload_n hx hb dX9_address_81 rfl (lv_at hl 0 rfl) ?_
              refine va_get (D := D) (T := TX9) (N := 51) hx hb hts jnX9 hown hK hP 55 (wd_55 y ad cap I J) rfl 32 (by decide) (hts _ fl_X9_57) (fun _ h9 => h9) rfl dX9_address_82 ?_
              refine lv_iload_n hx hb dX9_address_85 rfl (lv_at hl 2 rfl) ?_
              refine va_lald (D := D) hx hb hK hP 71 1 (wd_71 y ad cap I J) rfl (vp_in_nI (by omega) (by omega)) dX9_address_86 ?_
              rw [nI_clamp (n := j0) (by omega)]
              refine lv_topl (fun v86 ev86 => ?_)
              obtain rfl : v86 = (lN (labA TL (cnt M) j0)) := by
                rw [ev86]; exact hA.2.1 _ (by omega)
              refine lv_goto (tgt := 93) hx hb dX9_address_87 (by decide) ?_
              refine W.lret (v := (lN (labA TL (cnt M) j0))) hx hb hr (fun t ht hW => ⟨_, rfl, ?_, ht⟩) (fun _ h => nomatch h) dX9_address_93
              unfold qAddr
              rw [if_neg (by decide), if_pos rfl]
              first | (rw [ix_no (fun h9 => h9.2 c78)]; done) | (rw [ix_in (n := TL 0 1) (by omega) hj0]; done)
          · skip
            subst hsw3
            refine lv_tableIn (off := 78) (tgt := 94) hx hb dX9_address_16 (by decide) (by decide) rfl (by decide) ?_
            refine lv_iload_n hx hb dX9_address_94 rfl (lv_at hl 2 rfl) ?_
            refine lv_aload_n hx hb dX9_address_95 rfl (lv_at hl 0 rfl) ?_
            refine va_get (D := D) (T := TX9) (N := 51) hx hb hts jnX9 hown hK hP 55 (wd_55 y ad cap I J) rfl 23 (by decide) (hts _ fl_X9_196) (fun _ h9 => h9) rfl dX9_address_96 ?_
            refine lv_topi (fun v96 ev96 => ?_)
            obtain rfl : v96 = (nI (TL 0 2)) := by
              rw [ev96]; exact m23
            refine lv_icmp_ge (tgt := 111) hx hb dX9_address_99 (by decide) (fun c99 => ?_) (fun c99 => ?_)
            · skip
              refine lv_ldc2 (v := (-9223372036854775808)) hx hb hown (hts _ kc_X9_219) dX9_address_111 ?_
              refine W.lret (v := (-9223372036854775808)) hx hb hr (fun t ht hW => ⟨_, rfl, ?_, ht⟩) (fun _ h => nomatch h) dX9_address_114
              unfold qAddr
              rw [if_neg (by decide), if_neg (by decide), if_pos rfl]
              first | (rw [ix_no (fun h9 => h9.2 c99)]; done) | (rw [ix_in (n := TL 0 2) (by omega) hj0]; done)
            · skip
              obtain ⟨j0, j1, hj0⟩ := ix_lt (n := TL 0 2) (by omega) (Int32.not_lt.mpr c8) c99
              subst j1
              refine lv_aload_n hx hb dX9_address_102 rfl (lv_at hl 0 rfl) ?_
              refine va_get (D := D) (T := TX9) (N := 51) hx hb hts jnX9 hown hK hP 55 (wd_55 y ad cap I J) rfl 33 (by decide) (hts _ fl_X9_60) (fun _ h9 => h9) rfl dX9_address_103 ?_
              refine lv_iload_n hx hb dX9_address_106 rfl (lv_at hl 2 rfl) ?_
              refine va_lald (D := D) hx hb hK hP 72 1 (wd_72 y ad cap I J) rfl (vp_in_nI (by omega) (by omega)) dX9_address_107 ?_
              rw [nI_clamp (n := j0) (by omega)]
              refine lv_topl (fun v107 ev107 => ?_)
              obtain rfl : v107 = (lN (braA TL (cnt M) j0)) := by
                rw [ev107]; exact hA.2.2.1 _ (by omega)
              refine lv_goto (tgt := 114) hx hb dX9_address_108 (by decide) ?_
              refine W.lret (v := (lN (braA TL (cnt M) j0))) hx hb hr (fun t ht hW => ⟨_, rfl, ?_, ht⟩) (fun _ h => nomatch h) dX9_address_114
              unfold qAddr
              rw [if_neg (by decide), if_neg (by decide), if_pos rfl]
              first | (rw [ix_no (fun h9 => h9.2 c99)]; done) | (rw [ix_in (n := TL 0 2) (by omega) hj0]; done)
          · skip
            subst hsw3
            refine lv_tableIn (off := 99) (tgt := 115) hx hb dX9_address_16 (by decide) (by decide) rfl (by decide) ?_
            refine lv_iload_n hx hb dX9_address_115 rfl (lv_at hl 2 rfl) ?_
            refine lv_aload_n hx hb dX9_address_116 rfl (lv_at hl 0 rfl) ?_
            refine va_get (D := D) (T := TX9) (N := 51) hx hb hts jnX9 hown hK hP 55 (wd_55 y ad cap I J) rfl 24 (by decide) (hts _ fl_X9_180) (fun _ h9 => h9) rfl dX9_address_117 ?_
            refine lv_topi (fun v117 ev117 => ?_)
            obtain rfl : v117 = (nI M.length) := by
              rw [ev117]; exact m24
            refine lv_icmp_ge (tgt := 132) hx hb dX9_address_120 (by decide) (fun c120 => ?_) (fun c120 => ?_)
            · skip
              refine lv_ldc2 (v := (-9223372036854775808)) hx hb hown (hts _ kc_X9_219) dX9_address_132 ?_
              refine W.lret (v := (-9223372036854775808)) hx hb hr (fun t ht hW => ⟨_, rfl, ?_, ht⟩) (fun _ h => nomatch h) dX9_address_135
              unfold qAddr
              rw [if_neg (by decide), if_neg (by decide), if_neg (by decide), if_pos rfl]
              first | (rw [ix_no (fun h9 => h9.2 c120)]; done) | (rw [ix_in (n := M.length) (by omega) hj0]; done)
            · skip
              obtain ⟨j0, j1, hj0⟩ := ix_lt (n := M.length) (by omega) (Int32.not_lt.mpr c8) c120
              subst j1
              refine lv_aload_n hx hb dX9_address_123 rfl (lv_at hl 0 rfl) ?_
              refine va_get (D := D) (T := TX9) (N := 51) hx hb hts jnX9 hown hK hP 55 (wd_55 y ad cap I J) rfl 42 (by decide) (hts _ fl_X9_81) (fun _ h9 => h9) rfl dX9_address_124 ?_
              refine lv_iload_n hx hb dX9_address_127 rfl (lv_at hl 2 rfl) ?_
              refine va_lald (D := D) hx hb hK hP 79 1 (wd_79 y ad cap I J) rfl (vp_in_nI (by omega) (by omega)) dX9_address_128 ?_
              rw [nI_clamp (n := j0) (by omega)]
              refine lv_topl (fun v128 ev128 => ?_)
              obtain rfl : v128 = (lN (plc TL M j0)) := by
                rw [ev128]; exact hA.2.2.2.1 _ (by omega)
              refine lv_goto (tgt := 135) hx hb dX9_address_129 (by decide) ?_
              refine W.lret (v := (lN (plc TL M j0))) hx hb hr (fun t ht hW => ⟨_, rfl, ?_, ht⟩) (fun _ h => nomatch h) dX9_address_135
              unfold qAddr
              rw [if_neg (by decide), if_neg (by decide), if_neg (by decide), if_pos rfl]
              first | (rw [ix_no (fun h9 => h9.2 c120)]; done) | (rw [ix_in (n := M.length) (by omega) hj0]; done)
          · skip
            subst hsw3
            refine lv_tableIn (off := 120) (tgt := 136) hx hb dX9_address_16 (by decide) (by decide) rfl (by decide) ?_
            refine lv_iload_n hx hb dX9_address_136 rfl (lv_at hl 2 rfl) ?_
            refine lv_aload_n hx hb dX9_address_137 rfl (lv_at hl 0 rfl) ?_
            refine va_get (D := D) (T := TX9) (N := 51) hx hb hts jnX9 hown hK hP 55 (wd_55 y ad cap I J) rfl 21 (by decide) (hts _ fl_X9_190) (fun _ h9 => h9) rfl dX9_address_138 ?_
            refine lv_topi (fun v138 ev138 => ?_)
            obtain rfl : v138 = (nI (TL 0 0)) := by
              rw [ev138]; exact m21
            refine lv_icmp_ge (tgt := 162) hx hb dX9_address_141 (by decide) (fun c141 => ?_) (fun c141 => ?_)
            · skip
              refine lv_ldc2 (v := (-9223372036854775808)) hx hb hown (hts _ kc_X9_219) dX9_address_162 ?_
              refine W.lret (v := (-9223372036854775808)) hx hb hr (fun t ht hW => ⟨_, rfl, ?_, ht⟩) (fun _ h => nomatch h) dX9_address_165
              unfold qAddr
              rw [if_neg (by decide), if_neg (by decide), if_neg (by decide), if_neg (by decide), if_pos rfl]
              first | (rw [ix_no (fun h9 => h9.2 c141)]; done) | (rw [ix_in (n := TL 0 0) (by omega) hj0]; simp only []; first | (rw [if_pos ((nI_z (by omega)).mp c150)]; done) | (rw [if_neg (mt (nI_z (by omega)).mpr c150)]; done))
            · skip
              obtain ⟨j0, j1, hj0⟩ := ix_lt (n := TL 0 0) (by omega) (Int32.not_lt.mpr c8) c141
              subst j1
              obtain ⟨y3, y4, y5⟩ := wS j0 hj0
              refine lv_aload_n hx hb dX9_address_144 rfl (lv_at hl 0 rfl) ?_
              refine va_get (D := D) (T := TX9) (N := 51) hx hb hts jnX9 hown hK hP 55 (wd_55 y ad cap I J) rfl 30 (by decide) (hts _ fl_X9_51) (fun _ h9 => h9) rfl dX9_address_145 ?_
              refine lv_iload_n hx hb dX9_address_148 rfl (lv_at hl 2 rfl) ?_
              refine va_zald (D := D) hx hb hK hP 69 2 (wd_69 y ad cap I J) rfl (vp_in_nI (by omega) (by omega)) dX9_address_149 ?_
              rw [nI_clamp (n := j0) (by omega)]
              refine lv_topi (fun v149 ev149 => ?_)
              obtain rfl : v149 = (nI (TL 3 j0)) := by
                rw [ev149]; exact m69 _ (by omega)
              refine lv_if_eq (tgt := 162) hx hb dX9_address_150 (by decide) (fun c150 => ?_) (fun c150 => ?_)
              · skip
                refine lv_ldc2 (v := (-9223372036854775808)) hx hb hown (hts _ kc_X9_219) dX9_address_162 ?_
                refine W.lret (v := (-9223372036854775808)) hx hb hr (fun t ht hW => ⟨_, rfl, ?_, ht⟩) (fun _ h => nomatch h) dX9_address_165
                unfold qAddr
                rw [if_neg (by decide), if_neg (by decide), if_neg (by decide), if_neg (by decide), if_pos rfl]
                first | (rw [ix_no (fun h9 => h9.2 c141)]; done) | (rw [ix_in (n := TL 0 0) (by omega) hj0]; simp only []; first | (rw [if_pos ((nI_z (by omega)).mp c150)]; done) | (rw [if_neg (mt (nI_z (by omega)).mpr c150)]; done))
              · skip
                refine lv_aload_n hx hb dX9_address_153 rfl (lv_at hl 0 rfl) ?_
                refine va_get (D := D) (T := TX9) (N := 51) hx hb hts jnX9 hown hK hP 55 (wd_55 y ad cap I J) rfl 31 (by decide) (hts _ fl_X9_54) (fun _ h9 => h9) rfl dX9_address_154 ?_
                refine lv_iload_n hx hb dX9_address_157 rfl (lv_at hl 2 rfl) ?_
                refine va_lald (D := D) hx hb hK hP 70 1 (wd_70 y ad cap I J) rfl (vp_in_nI (by omega) (by omega)) dX9_address_158 ?_
                rw [nI_clamp (n := j0) (by omega)]
                refine lv_topl (fun v158 ev158 => ?_)
                obtain rfl : v158 = (lN (pE TL (cnt M) j0)) := by
                  rw [ev158]; exact (hA.1 _ (by omega)).2.2
                refine lv_goto (tgt := 165) hx hb dX9_address_159 (by decide) ?_
                refine W.lret (v := (lN (pE TL (cnt M) j0))) hx hb hr (fun t ht hW => ⟨_, rfl, ?_, ht⟩) (fun _ h => nomatch h) dX9_address_165
                unfold qAddr
                rw [if_neg (by decide), if_neg (by decide), if_neg (by decide), if_neg (by decide), if_pos rfl]
                first | (rw [ix_no (fun h9 => h9.2 c141)]; done) | (rw [ix_in (n := TL 0 0) (by omega) hj0]; simp only []; first | (rw [if_pos ((nI_z (by omega)).mp c150)]; done) | (rw [if_neg (mt (nI_z (by omega)).mpr c150)]; done))
      · skip
        refine lv_ldc2 (v := (-9223372036854775808)) hx hb hown (hts _ kc_X9_219) dX9_address_11 ?_
        refine W.lret (v := (-9223372036854775808)) hx hb hr (fun t ht hW => ⟨_, rfl, ?_, ht⟩) (fun _ h => nomatch h) dX9_address_14
        exact (a_neg (Int32.not_le.mp c8)).symm
set_option maxHeartbeats 4000000 in
set_option maxRecDepth 100000 in
theorem c_X9_route (l : Launch) (D : va_G) (y : Nat → ClassId) (ad : Nat → Nat) (cap : Nat → Nat) (I : Nat → Nat → Int32) (J : Nat → Nat → Int64) {TL : Nat → Nat → Nat} {M : List Th} {R : Nat} (hX : MLx I J TL M R) (hW : WF TL) (p1 p2 : Int32) : Met l yX9_route [.code yX9_route cX9_route 3 (some .int)] ({ frames := 1, cells := 0, slots := 0, locals := 22 }) (va_Pc [.ref (ad 55), .int p1, .int p2] (PR D y (Wd y ad cap I J))) (vp_Si (fun r => r = qRoute TL M p1 p2)) 0 0 (fun _ => False) := by
  refine Met.ofW (cc := cX9_route) (maxL := 3) (ret := (some .int)) (by decide) rfl ?_
  intro p e s m args below meth c s₁ B hml hv
  obtain ⟨rfl, hP, hO⟩ := hv
  have hx := B.exec
  have hb := B.bytes
  have hr := B.returns
  have hown : s.vm.findClass RX9 = some m.cls := findClass_of_methodNamed B.named
  have hlocks := B.notSynchronized
  have hK := hO.1
  have hts : ∀ w ∈ lw_E, w.before ([.ref (ad 55), .int p1, .int p2] : List Value).toArray s = true := fun w h => hO.2 w h _
  clear B
  have hl := lv_entry ([.ref (ad 55), .int p1, .int p2]) (n := 3) (Nat.le_of_ble_eq_true rfl)
  rw [lg_entry_eq]
  generalize (lg_sl ([.ref (ad 55), .int p1, .int p2]) ++ List.replicate (3 - (lg_sl ([.ref (ad 55), .int p1, .int p2])).length) Slot.unset).toArray = ls at hl ⊢
  have hl : lv_has ls 3 [(0, .ref (ad 55)), (1, .int p1), (2, .int p2)] := hl
  rcases hX with hX | hML
  · skip
    obtain ⟨m20, hz, rfl, rfl⟩ := hX
    refine lv_aload_n hx hb dX9_route_0 rfl (lv_at hl 0 rfl) ?_
    refine va_get (D := D) (T := TX9) (N := 51) hx hb hts jnX9 hown hK hP 55 (wd_55 y ad cap I J) rfl 20 (by decide) (hts _ fl_X9_187) (fun _ h9 => h9) rfl dX9_route_1 ?_
    refine lv_topi (fun v1 ev1 => ?_)
    obtain rfl : v1 = 0 := by
      rw [ev1]; exact m20
    refine lv_if_eq (tgt := 21) hx hb dX9_route_4 (by decide) (fun c4 => ?_) (fun c4 => ?_)
    · skip
      refine lv_iconst (v := (-1)) hx hb dX9_route_21 (by decide) ?_
      refine W.iret (v := (-1)) hx hb hr (fun t ht hW => ⟨_, rfl, ?_, ht⟩) (fun _ h => nomatch h) dX9_route_22
      unfold qRoute
      rw [hz 0 2, ix_no (fun h9 => h9.2 (Int32.not_lt.mp h9.1))]
    · skip
      exact absurd c4 (by decide)
  · skip
    have hML0 := hML
    obtain ⟨⟨m20, m21, m22, m23, m24, m25, m40, m41, m26⟩, ⟨hTWM, htz0⟩, m69, hK9, mB, mT, hA⟩ := hML
    have hW0 := hW
    obtain ⟨⟨w1, w2, w3, w4, w5, w6, w7⟩, wS, wL, wB, wK, wTk, wT0⟩ := hW
    have hlM : M.length ≤ 2400 := TW_len hW0 hTWM
    have hnM : ∀ s, cnt M s ≤ 2400 := fun s => Nat.le_trans (cnt_le M s) hlM
    refine lv_aload_n hx hb dX9_route_0 rfl (lv_at hl 0 rfl) ?_
    refine va_get (D := D) (T := TX9) (N := 51) hx hb hts jnX9 hown hK hP 55 (wd_55 y ad cap I J) rfl 20 (by decide) (hts _ fl_X9_187) (fun _ h9 => h9) rfl dX9_route_1 ?_
    refine lv_topi (fun v1 ev1 => ?_)
    obtain rfl : v1 = 1 := by
      rw [ev1]; exact m20
    refine lv_if_eq (tgt := 21) hx hb dX9_route_4 (by decide) (fun c4 => ?_) (fun c4 => ?_)
    · skip
      exact absurd c4 (by decide)
    · skip
      refine lv_iload_n hx hb dX9_route_7 rfl (lv_at hl 1 rfl) ?_
      refine lv_iconst (v := 0) hx hb dX9_route_8 (by decide) ?_
      refine lv_aload_n hx hb dX9_route_9 rfl (lv_at hl 0 rfl) ?_
      refine va_get (D := D) (T := TX9) (N := 51) hx hb hts jnX9 hown hK hP 55 (wd_55 y ad cap I J) rfl 23 (by decide) (hts _ fl_X9_196) (fun _ h9 => h9) rfl dX9_route_10 ?_
      refine lv_topi (fun v10 ev10 => ?_)
      obtain rfl : v10 = (nI (TL 0 2)) := by
        rw [ev10]; exact m23
      refine lv_iconst (v := 1) hx hb dX9_route_13 (by decide) ?_
      refine lv_isub hx hb dX9_route_14 ?_
      refine lv_topi (fun v14 ev14 => ?_)
      refine rk_i (run_s (As := [.int p1, .int 0, .int v14]) (rest := []) hx hb hml hown hO.2 (c_X9_in l D y p1 0 v14) k_X9_in ml_X9_110 ⟨rfl, rfl⟩ ⟨Nat.le_of_ble_eq_true rfl, Nat.le_of_ble_eq_true rfl⟩ (pre_SR hO hP) rfl hl.1 rfl (Nat.le_of_ble_eq_true rfl) dX9_route_15 ⟨(Nat.zero_le _), (Nat.zero_le _)⟩) (fun r15 er15 => ?_)
      try dsimp only at er15
      refine lv_if_ne (tgt := 23) hx hb dX9_route_18 (by decide) (fun c18 => ?_) (fun c18 => ?_)
      · skip
        have c18 := if01_n er15 c18
        have c18 := (in_pred (by omega) ev14).mp c18
        obtain ⟨b0, j1, hb0⟩ := ix_ok (n := TL 0 2) (by omega) c18
        subst j1
        refine lv_iload_n hx hb dX9_route_23 rfl (lv_at hl 2 rfl) ?_
        refine lv_if_ne (tgt := 36) hx hb dX9_route_24 (by decide) (fun c24 => ?_) (fun c24 => ?_)
        · skip
          refine lv_iload_n hx hb dX9_route_36 rfl (lv_at hl 2 rfl) ?_
          refine lv_iconst (v := 1) hx hb dX9_route_37 (by decide) ?_
          refine lv_icmp_ne (tgt := 50) hx hb dX9_route_38 (by decide) (fun c38 => ?_) (fun c38 => ?_)
          · skip
            refine lv_iconst (v := (-1)) hx hb dX9_route_50 (by decide) ?_
            refine W.iret (v := (-1)) hx hb hr (fun t ht hW => ⟨_, rfl, ?_, ht⟩) (fun _ h => nomatch h) dX9_route_51
            unfold qRoute
            rw [ix_in (n := TL 0 2) (by omega) hb0]
            simp only []
            first | (rw [if_pos c24]; done) | (rw [if_neg c24, if_pos c38]; done) | (rw [if_neg c24, if_neg c38]; done)
          · skip
            refine lv_aload_n hx hb dX9_route_41 rfl (lv_at hl 0 rfl) ?_
            refine va_get (D := D) (T := TX9) (N := 51) hx hb hts jnX9 hown hK hP 55 (wd_55 y ad cap I J) rfl 37 (by decide) (hts _ fl_X9_72) (fun _ h9 => h9) rfl dX9_route_42 ?_
            refine lv_iload_n hx hb dX9_route_45 rfl (lv_at hl 1 rfl) ?_
            refine va_iald (D := D) hx hb hK hP 76 0 (wd_76 y ad cap I J) rfl (vp_in_nI (by omega) (by omega)) dX9_route_46 ?_
            rw [nI_clamp (n := b0) (by omega)]
            refine lv_topi (fun v46 ev46 => ?_)
            obtain rfl : v46 = (oI (rtB TL M b0)) := by
              rw [ev46]; exact (mB _ (by omega)).2.2.2
            refine lv_goto (tgt := 51) hx hb dX9_route_47 (by decide) ?_
            refine W.iret (v := (oI (rtB TL M b0))) hx hb hr (fun t ht hW => ⟨_, rfl, ?_, ht⟩) (fun _ h => nomatch h) dX9_route_51
            unfold qRoute
            rw [ix_in (n := TL 0 2) (by omega) hb0]
            simp only []
            first | (rw [if_pos c24]; done) | (rw [if_neg c24, if_pos c38]; done) | (rw [if_neg c24, if_neg c38]; done)
        · skip
          refine lv_aload_n hx hb dX9_route_27 rfl (lv_at hl 0 rfl) ?_
          refine va_get (D := D) (T := TX9) (N := 51) hx hb hts jnX9 hown hK hP 55 (wd_55 y ad cap I J) rfl 36 (by decide) (hts _ fl_X9_69) (fun _ h9 => h9) rfl dX9_route_28 ?_
          refine lv_iload_n hx hb dX9_route_31 rfl (lv_at hl 1 rfl) ?_
          refine va_iald (D := D) hx hb hK hP 75 0 (wd_75 y ad cap I J) rfl (vp_in_nI (by omega) (by omega)) dX9_route_32 ?_
          rw [nI_clamp (n := b0) (by omega)]
          refine lv_topi (fun v32 ev32 => ?_)
          obtain rfl : v32 = (nI (wyB TL M b0)) := by
            rw [ev32]; exact (mB _ (by omega)).2.2.1
          refine lv_goto (tgt := 51) hx hb dX9_route_33 (by decide) ?_
          refine W.iret (v := (nI (wyB TL M b0))) hx hb hr (fun t ht hW => ⟨_, rfl, ?_, ht⟩) (fun _ h => nomatch h) dX9_route_51
          unfold qRoute
          rw [ix_in (n := TL 0 2) (by omega) hb0]
          simp only []
          first | (rw [if_pos c24]; done) | (rw [if_neg c24, if_pos c38]; done) | (rw [if_neg c24, if_neg c38]; done)
      · skip
        have c18 := if01_z er15 c18
        refine lv_iconst (v := (-1)) hx hb dX9_route_21 (by decide) ?_
        refine W.iret (v := (-1)) hx hb hr (fun t ht hW => ⟨_, rfl, ?_, ht⟩) (fun _ h => nomatch h) dX9_route_22
        unfold qRoute
        rw [ix_no (fun h9 => c18 ((in_pred (by omega) ev14).mpr h9))]
set_option maxHeartbeats 4000000 in
set_option maxRecDepth 100000 in
theorem c_X9_thunk (l : Launch) (D : va_G) (y : Nat → ClassId) (ad : Nat → Nat) (cap : Nat → Nat) (I : Nat → Nat → Int32) (J : Nat → Nat → Int64) {TL : Nat → Nat → Nat} {M : List Th} {R : Nat} (hX : MLx I J TL M R) (hW : WF TL) (p1 p2 : Int32) : Met l yX9_thunk [.code yX9_thunk cX9_thunk 3 (some .int)] ({ frames := 1, cells := 0, slots := 0, locals := 22 }) (va_Pc [.ref (ad 55), .int p1, .int p2] (PR D y (Wd y ad cap I J))) (vp_Si (fun r => r = qThunk TL M p1 p2)) 0 0 (fun _ => False) := by
  refine Met.ofW (cc := cX9_thunk) (maxL := 3) (ret := (some .int)) (by decide) rfl ?_
  intro p e s m args below meth c s₁ B hml hv
  obtain ⟨rfl, hP, hO⟩ := hv
  have hx := B.exec
  have hb := B.bytes
  have hr := B.returns
  have hown : s.vm.findClass RX9 = some m.cls := findClass_of_methodNamed B.named
  have hlocks := B.notSynchronized
  have hK := hO.1
  have hts : ∀ w ∈ lw_E, w.before ([.ref (ad 55), .int p1, .int p2] : List Value).toArray s = true := fun w h => hO.2 w h _
  clear B
  have hl := lv_entry ([.ref (ad 55), .int p1, .int p2]) (n := 3) (Nat.le_of_ble_eq_true rfl)
  rw [lg_entry_eq]
  generalize (lg_sl ([.ref (ad 55), .int p1, .int p2]) ++ List.replicate (3 - (lg_sl ([.ref (ad 55), .int p1, .int p2])).length) Slot.unset).toArray = ls at hl ⊢
  have hl : lv_has ls 3 [(0, .ref (ad 55)), (1, .int p1), (2, .int p2)] := hl
  rcases hX with hX | hML
  · skip
    obtain ⟨m20, hz, rfl, rfl⟩ := hX
    refine lv_aload_n hx hb dX9_thunk_0 rfl (lv_at hl 0 rfl) ?_
    refine va_get (D := D) (T := TX9) (N := 51) hx hb hts jnX9 hown hK hP 55 (wd_55 y ad cap I J) rfl 20 (by decide) (hts _ fl_X9_187) (fun _ h9 => h9) rfl dX9_thunk_1 ?_
    refine lv_topi (fun v1 ev1 => ?_)
    obtain rfl : v1 = 0 := by
      rw [ev1]; exact m20
    refine lv_if_eq (tgt := 21) hx hb dX9_thunk_4 (by decide) (fun c4 => ?_) (fun c4 => ?_)
    · skip
      refine lv_iconst (v := (-1)) hx hb dX9_thunk_21 (by decide) ?_
      refine W.iret (v := (-1)) hx hb hr (fun t ht hW => ⟨_, rfl, ?_, ht⟩) (fun _ h => nomatch h) dX9_thunk_22
      unfold qThunk
      rw [show ix ([] : List Th).length p1 = none from ix_no (fun h9 => h9.2 (Int32.not_lt.mp h9.1))]
    · skip
      exact absurd c4 (by decide)
  · skip
    have hML0 := hML
    obtain ⟨⟨m20, m21, m22, m23, m24, m25, m40, m41, m26⟩, ⟨hTWM, htz0⟩, m69, hK9, mB, mT, hA⟩ := hML
    have hW0 := hW
    obtain ⟨⟨w1, w2, w3, w4, w5, w6, w7⟩, wS, wL, wB, wK, wTk, wT0⟩ := hW
    have hlM : M.length ≤ 2400 := TW_len hW0 hTWM
    have hnM : ∀ s, cnt M s ≤ 2400 := fun s => Nat.le_trans (cnt_le M s) hlM
    refine lv_aload_n hx hb dX9_thunk_0 rfl (lv_at hl 0 rfl) ?_
    refine va_get (D := D) (T := TX9) (N := 51) hx hb hts jnX9 hown hK hP 55 (wd_55 y ad cap I J) rfl 20 (by decide) (hts _ fl_X9_187) (fun _ h9 => h9) rfl dX9_thunk_1 ?_
    refine lv_topi (fun v1 ev1 => ?_)
    obtain rfl : v1 = 1 := by
      rw [ev1]; exact m20
    refine lv_if_eq (tgt := 21) hx hb dX9_thunk_4 (by decide) (fun c4 => ?_) (fun c4 => ?_)
    · skip
      exact absurd c4 (by decide)
    · skip
      refine lv_iload_n hx hb dX9_thunk_7 rfl (lv_at hl 1 rfl) ?_
      refine lv_iconst (v := 0) hx hb dX9_thunk_8 (by decide) ?_
      refine lv_aload_n hx hb dX9_thunk_9 rfl (lv_at hl 0 rfl) ?_
      refine va_get (D := D) (T := TX9) (N := 51) hx hb hts jnX9 hown hK hP 55 (wd_55 y ad cap I J) rfl 24 (by decide) (hts _ fl_X9_180) (fun _ h9 => h9) rfl dX9_thunk_10 ?_
      refine lv_topi (fun v10 ev10 => ?_)
      obtain rfl : v10 = (nI M.length) := by
        rw [ev10]; exact m24
      refine lv_iconst (v := 1) hx hb dX9_thunk_13 (by decide) ?_
      refine lv_isub hx hb dX9_thunk_14 ?_
      refine lv_topi (fun v14 ev14 => ?_)
      refine rk_i (run_s (As := [.int p1, .int 0, .int v14]) (rest := []) hx hb hml hown hO.2 (c_X9_in l D y p1 0 v14) k_X9_in ml_X9_110 ⟨rfl, rfl⟩ ⟨Nat.le_of_ble_eq_true rfl, Nat.le_of_ble_eq_true rfl⟩ (pre_SR hO hP) rfl hl.1 rfl (Nat.le_of_ble_eq_true rfl) dX9_thunk_15 ⟨(Nat.zero_le _), (Nat.zero_le _)⟩) (fun r15 er15 => ?_)
      try dsimp only at er15
      refine lv_if_ne (tgt := 23) hx hb dX9_thunk_18 (by decide) (fun c18 => ?_) (fun c18 => ?_)
      · skip
        have c18 := if01_n er15 c18
        have c18 := (in_pred (by omega) ev14).mp c18
        obtain ⟨t0, j1, ht0⟩ := ix_ok (n := M.length) (by omega) c18
        subst j1
        refine lv_iload_n hx hb dX9_thunk_23 rfl (lv_at hl 2 rfl) ?_
        by_cases hsw : p2.toInt < 0 ∨ 5 < p2.toInt
        · skip
          refine lv_tableOut (tgt := 106) hx hb dX9_thunk_24 hsw (by decide) ?_
          refine lv_iconst (v := (-1)) hx hb dX9_thunk_106 (by decide) ?_
          refine W.iret (v := (-1)) hx hb hr (fun t ht hW => ⟨_, rfl, ?_, ht⟩) (fun _ h => nomatch h) dX9_thunk_107
          unfold qThunk
          rw [ix_in (n := M.length) (by omega) ht0]
          simp only []
          rw [if_neg (fun e => by rw [e] at hsw; exact absurd hsw (by decide)), if_neg (fun e => by rw [e] at hsw; exact absurd hsw (by decide)), if_neg (fun e => by rw [e] at hsw; exact absurd hsw (by decide)), if_neg (fun e => by rw [e] at hsw; exact absurd hsw (by decide)), if_neg (fun e => by rw [e] at hsw; exact absurd hsw (by decide)), if_neg (fun e => by rw [e] at hsw; exact absurd hsw (by decide))]
        · skip
          have hsw2 : p2 = 0 ∨ p2 = 1 ∨ p2 = 2 ∨ p2 = 3 ∨ p2 = 4 ∨ p2 = 5 := by
            have h1 : p2.toInt = 0 ∨ p2.toInt = 1 ∨ p2.toInt = 2 ∨ p2.toInt = 3 ∨ p2.toInt = 4 ∨ p2.toInt = 5 := by omega
            rcases h1 with h1 | h1 | h1 | h1 | h1 | h1
            · exact Or.inl (Int32.toInt_inj.mp h1)
            · exact Or.inr (Or.inl (Int32.toInt_inj.mp h1))
            · exact Or.inr (Or.inr (Or.inl (Int32.toInt_inj.mp h1)))
            · exact Or.inr (Or.inr (Or.inr (Or.inl (Int32.toInt_inj.mp h1))))
            · exact Or.inr (Or.inr (Or.inr (Or.inr (Or.inl (Int32.toInt_inj.mp h1)))))
            · exact Or.inr (Or.inr (Or.inr (Or.inr (Or.inr (Int32.toInt_inj.mp h1)))))
          rcases hsw2 with hsw3 | hsw3 | hsw3 | hsw3 | hsw3 | hsw3
          · skip
            subst hsw3
            refine lv_tableIn (off := 40) (tgt := 64) hx hb dX9_thunk_24 (by decide) (by decide) rfl (by decide) ?_
            refine lv_aload_n hx hb dX9_thunk_64 rfl (lv_at hl 0 rfl) ?_
            refine va_get (D := D) (T := TX9) (N := 51) hx hb hts jnX9 hown hK hP 55 (wd_55 y ad cap I J) rfl 43 (by decide) (hts _ fl_X9_84) (fun _ h9 => h9) rfl dX9_thunk_65 ?_
            refine lv_iload_n hx hb dX9_thunk_68 rfl (lv_at hl 1 rfl) ?_
            refine va_iald (D := D) hx hb hK hP 80 0 (wd_80 y ad cap I J) rfl (vp_in_nI (by omega) (by omega)) dX9_thunk_69 ?_
            rw [nI_clamp (n := t0) (by omega)]
            refine lv_topi (fun v69 ev69 => ?_)
            obtain rfl : v69 = (nI ((thA M t0).1)) := by
              rw [ev69]; exact (mT _ (by omega)).1.1
            refine W.iret (v := (nI ((thA M t0).1))) hx hb hr (fun t ht hW => ⟨_, rfl, ?_, ht⟩) (fun _ h => nomatch h) dX9_thunk_70
            unfold qThunk
            rw [ix_in (n := M.length) (by omega) ht0]
            simp only []
            rw [if_pos trivial]
          · skip
            subst hsw3
            refine lv_tableIn (off := 47) (tgt := 71) hx hb dX9_thunk_24 (by decide) (by decide) rfl (by decide) ?_
            refine lv_aload_n hx hb dX9_thunk_71 rfl (lv_at hl 0 rfl) ?_
            refine va_get (D := D) (T := TX9) (N := 51) hx hb hts jnX9 hown hK hP 55 (wd_55 y ad cap I J) rfl 44 (by decide) (hts _ fl_X9_87) (fun _ h9 => h9) rfl dX9_thunk_72 ?_
            refine lv_iload_n hx hb dX9_thunk_75 rfl (lv_at hl 1 rfl) ?_
            refine va_iald (D := D) hx hb hK hP 81 0 (wd_81 y ad cap I J) rfl (vp_in_nI (by omega) (by omega)) dX9_thunk_76 ?_
            rw [nI_clamp (n := t0) (by omega)]
            refine lv_topi (fun v76 ev76 => ?_)
            obtain rfl : v76 = (nI ((thA M t0).2.1)) := by
              rw [ev76]; exact (mT _ (by omega)).1.2.1
            refine W.iret (v := (nI ((thA M t0).2.1))) hx hb hr (fun t ht hW => ⟨_, rfl, ?_, ht⟩) (fun _ h => nomatch h) dX9_thunk_77
            unfold qThunk
            rw [ix_in (n := M.length) (by omega) ht0]
            simp only []
            rw [if_neg (by decide), if_pos trivial]
          · skip
            subst hsw3
            refine lv_tableIn (off := 54) (tgt := 78) hx hb dX9_thunk_24 (by decide) (by decide) rfl (by decide) ?_
            refine lv_aload_n hx hb dX9_thunk_78 rfl (lv_at hl 0 rfl) ?_
            refine va_get (D := D) (T := TX9) (N := 51) hx hb hts jnX9 hown hK hP 55 (wd_55 y ad cap I J) rfl 45 (by decide) (hts _ fl_X9_90) (fun _ h9 => h9) rfl dX9_thunk_79 ?_
            refine lv_iload_n hx hb dX9_thunk_82 rfl (lv_at hl 1 rfl) ?_
            refine va_iald (D := D) hx hb hK hP 82 0 (wd_82 y ad cap I J) rfl (vp_in_nI (by omega) (by omega)) dX9_thunk_83 ?_
            rw [nI_clamp (n := t0) (by omega)]
            refine lv_topi (fun v83 ev83 => ?_)
            obtain rfl : v83 = (nI ((thA M t0).2.2.1)) := by
              rw [ev83]; exact (mT _ (by omega)).1.2.2.1
            refine W.iret (v := (nI ((thA M t0).2.2.1))) hx hb hr (fun t ht hW => ⟨_, rfl, ?_, ht⟩) (fun _ h => nomatch h) dX9_thunk_84
            unfold qThunk
            rw [ix_in (n := M.length) (by omega) ht0]
            simp only []
            rw [if_neg (by decide), if_neg (by decide), if_pos trivial]
          · skip
            subst hsw3
            refine lv_tableIn (off := 61) (tgt := 85) hx hb dX9_thunk_24 (by decide) (by decide) rfl (by decide) ?_
            refine lv_aload_n hx hb dX9_thunk_85 rfl (lv_at hl 0 rfl) ?_
            refine va_get (D := D) (T := TX9) (N := 51) hx hb hts jnX9 hown hK hP 55 (wd_55 y ad cap I J) rfl 46 (by decide) (hts _ fl_X9_93) (fun _ h9 => h9) rfl dX9_thunk_86 ?_
            refine lv_iload_n hx hb dX9_thunk_89 rfl (lv_at hl 1 rfl) ?_
            refine va_iald (D := D) hx hb hK hP 83 0 (wd_83 y ad cap I J) rfl (vp_in_nI (by omega) (by omega)) dX9_thunk_90 ?_
            rw [nI_clamp (n := t0) (by omega)]
            refine lv_topi (fun v90 ev90 => ?_)
            obtain rfl : v90 = (nI ((thA M t0).2.2.2)) := by
              rw [ev90]; exact (mT _ (by omega)).1.2.2.2.1
            refine W.iret (v := (nI ((thA M t0).2.2.2))) hx hb hr (fun t ht hW => ⟨_, rfl, ?_, ht⟩) (fun _ h => nomatch h) dX9_thunk_91
            unfold qThunk
            rw [ix_in (n := M.length) (by omega) ht0]
            simp only []
            rw [if_neg (by decide), if_neg (by decide), if_neg (by decide), if_pos trivial]
          · skip
            subst hsw3
            refine lv_tableIn (off := 68) (tgt := 92) hx hb dX9_thunk_24 (by decide) (by decide) rfl (by decide) ?_
            refine lv_aload_n hx hb dX9_thunk_92 rfl (lv_at hl 0 rfl) ?_
            refine va_get (D := D) (T := TX9) (N := 51) hx hb hts jnX9 hown hK hP 55 (wd_55 y ad cap I J) rfl 47 (by decide) (hts _ fl_X9_96) (fun _ h9 => h9) rfl dX9_thunk_93 ?_
            refine lv_iload_n hx hb dX9_thunk_96 rfl (lv_at hl 1 rfl) ?_
            refine va_iald (D := D) hx hb hK hP 84 0 (wd_84 y ad cap I J) rfl (vp_in_nI (by omega) (by omega)) dX9_thunk_97 ?_
            rw [nI_clamp (n := t0) (by omega)]
            refine lv_topi (fun v97 ev97 => ?_)
            obtain rfl : v97 = (nI (us TL M t0 (TL 0 2))) := by
              rw [ev97]; exact (mT _ (by omega)).2
            refine W.iret (v := (nI (us TL M t0 (TL 0 2)))) hx hb hr (fun t ht hW => ⟨_, rfl, ?_, ht⟩) (fun _ h => nomatch h) dX9_thunk_98
            unfold qThunk
            rw [ix_in (n := M.length) (by omega) ht0]
            simp only []
            rw [if_neg (by decide), if_neg (by decide), if_neg (by decide), if_neg (by decide), if_pos trivial]
          · skip
            subst hsw3
            refine lv_tableIn (off := 75) (tgt := 99) hx hb dX9_thunk_24 (by decide) (by decide) rfl (by decide) ?_
            refine lv_aload_n hx hb dX9_thunk_99 rfl (lv_at hl 0 rfl) ?_
            refine va_get (D := D) (T := TX9) (N := 51) hx hb hts jnX9 hown hK hP 55 (wd_55 y ad cap I J) rfl 48 (by decide) (hts _ fl_X9_99) (fun _ h9 => h9) rfl dX9_thunk_100 ?_
            refine lv_iload_n hx hb dX9_thunk_103 rfl (lv_at hl 1 rfl) ?_
            refine va_iald (D := D) hx hb hK hP 85 0 (wd_85 y ad cap I J) rfl (vp_in_nI (by omega) (by omega)) dX9_thunk_104 ?_
            rw [nI_clamp (n := t0) (by omega)]
            refine lv_topi (fun v104 ev104 => ?_)
            obtain rfl : v104 = (nI (rk M t0)) := by
              rw [ev104]; exact (mT _ (by omega)).1.2.2.2.2
            refine W.iret (v := (nI (rk M t0))) hx hb hr (fun t ht hW => ⟨_, rfl, ?_, ht⟩) (fun _ h => nomatch h) dX9_thunk_105
            unfold qThunk
            rw [ix_in (n := M.length) (by omega) ht0]
            simp only []
            rw [if_neg (by decide), if_neg (by decide), if_neg (by decide), if_neg (by decide), if_neg (by decide), if_pos trivial]
      · skip
        have c18 := if01_z er15 c18
        refine lv_iconst (v := (-1)) hx hb dX9_thunk_21 (by decide) ?_
        refine W.iret (v := (-1)) hx hb hr (fun t ht hW => ⟨_, rfl, ?_, ht⟩) (fun _ h => nomatch h) dX9_thunk_22
        unfold qThunk
        rw [ix_no (fun h9 => c18 ((in_pred (by omega) ev14).mpr h9))]
