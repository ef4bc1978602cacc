def EqJ (S : List Nat) (J J' : Nat → Nat → Int64) : Prop := ∀ j, j ∉ S → J' j = J j
theorem EqJ.rf {S : List Nat} {J : Nat → Nat → Int64} : EqJ S J J := fun _ _ => rfl
theorem EqJ.up {S : List Nat} {J J' : Nat → Nat → Int64} {k : Nat} {r : Nat → Int64} (h : EqJ S J J') (hk : k ∈ S) : EqJ S J (va_up J' k r) := fun j hj => by
  have : j ≠ k := fun e => hj (e ▸ hk)
  simp only [va_up, if_neg this]
  exact h j hj
theorem sAt_zero {T : Nat → Nat → Nat} {n : Nat → Nat} {k : Nat} (h : n k = 0) : sAt T n (k + 1) = sA T n k + T 1 k := by
  simp only [sAt, if_pos h, sA]
theorem sAt_some {T : Nat → Nat → Nat} {n : Nat → Nat} {k : Nat} (h : ¬ n k = 0) : sAt T n (k + 1) = pS T n k + (n k - 1) * up (T 0 5) (T 0 6) + T 0 5 := by
  simp only [sAt, if_neg h, sA, pS]
theorem pE_sub {T : Nat → Nat → Nat} {n : Nat → Nat} {k : Nat} (h : ¬ n k = 0) : lN (pE T n k) - lN (up (T 0 5) (T 0 6)) = lN (pS T n k + (n k - 1) * up (T 0 5) (T 0 6)) := by
  have e : n k * up (T 0 5) (T 0 6) = (n k - 1) * up (T 0 5) (T 0 6) + up (T 0 5) (T 0 6) := by
    obtain ⟨m, hm⟩ : ∃ m, n k = m + 1 := ⟨n k - 1, by omega⟩
    rw [hm, Nat.add_sub_cancel, Nat.succ_mul]
  rw [lN_sub (by unfold pE; omega)]
  congr 1
  unfold pE
  omega
def AdrJ (T : Nat → Nat → Nat) (n : Nat → Nat) (J : Nat → Nat → Int64) (a b c k : Nat) : Prop := ∀ s, s < k → J a s = lN (sA T n s) ∧ J b s = lN (pS T n s) ∧ J c s = lN (pE T n s)
theorem AdrJ_step {T : Nat → Nat → Nat} {n : Nat → Nat} {J J1 J2 J3 : Nat → Nat → Int64} {a b c k : Nat} (hab : a ≠ b) (hac : a ≠ c) (hbc : b ≠ c) (h : AdrJ T n J a b c k) (e1 : va_up J a (vp_updL (J a) k (lN (sA T n k))) = J1) (e2 : va_up J1 b (vp_updL (J1 b) k (lN (pS T n k))) = J2) (e3 : va_up J2 c (vp_updL (J2 c) k (lN (pE T n k))) = J3) : AdrJ T n J3 a b c (k + 1) := by
  subst e1 e2 e3
  intro s hs
  rcases lt_s2 hs with rfl | hs3
  · simp [va_up, vp_updL, hab, hac, hbc]
  · have hne : s ≠ k := by omega
    simpa [va_up, vp_updL, hab, hac, hbc, hab.symm, hac.symm, hbc.symm, hne] using h s hs3
set_option maxHeartbeats 4000000 in
set_option maxRecDepth 100000 in
theorem c_find34 (l : Launch) (D : va_G) (y : Nat → ClassId) (ad : Nat → Nat) (cap : Nat → Nat) (I : Nat → Nat → Int32) (J : Nat → Nat → Int64) (sz : Nat) {T : Nat → Nat → Nat} {n : Nat → Nat} (hT : RT18 I T) (hW : WF T) (hn : ∀ s, n s ≤ 2400) (hn9 : ∀ s, s < T 0 0 → I 46 s = nI (n s)) : Met l yX0_find [.code yX0_find cX0_find 8 none] ({ frames := 2, cells := 0, slots := 0, locals := 43 }) (va_Pc [.ref (ad 34), .ref (ad 18), .ref (ad 46)] (PW D y (Wd y ad cap I J) sz)) (va_Qv (fun u : St4 => ∃ J', u = (ad, cap, I, J') ∧ AdrJ T n J' 35 36 37 (T 0 0) ∧ J' 34 3 = lN (sAt T n (T 0 0)) ∧ EqJ [34, 35, 36, 37] J J') (Aft D (Wt y) (Wd y ad cap I J) sz) (va_A (Wd y ad cap I J) sz)) 0 0 (va_A (Wd y ad cap I J) sz) := by
  refine Met.ofW (cc := cX0_find) (maxL := 8) (ret := none) (by decide) rfl ?_
  intro p e s m args below meth c s₁ B hml hv
  obtain ⟨rfl, rfl, hP, hD0, hO⟩ := hv
  have hx := B.exec
  have hb := B.bytes
  have hr := B.returns
  have hown : s.vm.findClass RX0 = some m.cls := findClass_of_methodNamed B.named
  have hlocks := B.notSynchronized
  have hK := hO.1
  have hts : ∀ w ∈ lw_E, w.before ([.ref (ad 34), .ref (ad 18), .ref (ad 46)] : List Value).toArray s = true := fun w h => hO.2 w h _
  clear B
  have hD := hD0.self (sz := s.heap.size)
  generalize hAe : va_A (Wd y ad cap I J) s.heap.size = A at hD ⊢
  have hA : ∀ q : Nat, s.heap.size ≤ q → A q := fun q h => by rw [← hAe]; exact Or.inr h
  have hS : va_S A s.heap s.heap [] := va_S.rf
  have hl := lv_entry ([.ref (ad 34), .ref (ad 18), .ref (ad 46)]) (n := 8) (Nat.le_of_ble_eq_true rfl)
  rw [lg_entry_eq]
  generalize (lg_sl ([.ref (ad 34), .ref (ad 18), .ref (ad 46)]) ++ List.replicate (8 - (lg_sl ([.ref (ad 34), .ref (ad 18), .ref (ad 46)])).length) Slot.unset).toArray = ls at hl ⊢
  have hl : lv_has ls 8 [(0, .ref (ad 34)), (1, .ref (ad 18)), (2, .ref (ad 46))] := hl
  have hW0 := hW
  obtain ⟨⟨w1, w2, w3, w4, w5, w6, w7⟩, wS, wL, wB, wK, wTk, wT0⟩ := hW
  have h26 : 2 ^ T 0 6 ≤ 2 ^ 6 := Nat.pow_le_pow_right (by decide) w7
  have hst0 := hT.1.2.2.2.2.1
  refine lv_aload_n hx hb dX0_find_0 rfl (lv_at hl 1 rfl) ?_
  refine va_getN (D := D) (T := TX7) (N := 8) hx hb hts jnX7 hown hK hP 18 (wd_18 y ad cap I J) rfl 4 (by decide) (hts _ fn_X0_25) (fun _ h9 => h9) rfl dX0_find_1 ?_
  refine lv_topi (fun v1 ev1 => ?_)
  obtain rfl : v1 = (nI (T 0 4)) := by
    rw [ev1]; exact hT.1.2.2.2.2.1
  refine lv_i2l (v := lN (T 0 4)) hx hb dX0_find_4 (nI_l (by omega)) ?_
  refine lv_lstore_n (lv' := [(3, .long (lN (T 0 4))), (0, .ref (ad 34)), (1, .ref (ad 18)), (2, .ref (ad 46))]) hx hb dX0_find_5 rfl hl (by decide) rfl (fun ls hl => ?_)
  refine lv_aload_n hx hb dX0_find_6 rfl (lv_at hl 2 rfl) ?_
  refine rk_l (run_vn (As := []) (rest := []) (b := (ad 18)) hx hb hml hown hO.2 (c_X7_thunkStride l D y (n1 := T 0 5) (n2 := T 0 6) (hT.1.2.2.2.2.2.1 ▸ hT.1.2.2.2.2.2.2.1 ▸ wd_18 y ad cap I J) w6 w7) k_X7_thunkStride mn_X0_31 ⟨rfl, rfl⟩ ⟨Nat.le_of_ble_eq_true rfl, Nat.le_of_ble_eq_true rfl⟩ (pre_VR hO hP (wd_18 y ad cap I J) rfl) rfl hl.1 rfl (Nat.le_of_ble_eq_true rfl) dX0_find_7 ⟨(Nat.zero_le _), (Nat.zero_le _)⟩) (fun r7 er7 => ?_)
  try dsimp only at er7
  obtain rfl : r7 = (lN (up (T 0 5) (T 0 6))) := by
    exact er7
  refine lv_lstore (lv' := [(5, .long (lN (up (T 0 5) (T 0 6)))), (3, .long (lN (T 0 4))), (0, .ref (ad 34)), (1, .ref (ad 18)), (2, .ref (ad 46))]) hx hb dX0_find_10 hl (by decide) rfl (fun ls hl => ?_)
  refine lv_iconst (v := 0) hx hb dX0_find_12 (by decide) ?_
  rw [show (0 : Int32) = (nI 0) from rfl]
  refine lv_istore (lv' := [(7, .int (nI 0)), (5, .long (lN (up (T 0 5) (T 0 6)))), (3, .long (lN (T 0 4))), (0, .ref (ad 34)), (1, .ref (ad 18)), (2, .ref (ad 46))]) hx hb dX0_find_13 hl (by decide) rfl (fun ls hl => ?_)
  have loop15 : ∀ (n15 : Nat) (k : Nat) (J9 : Nat → Nat → Int64) , (k ≤ T 0 0) → (AdrJ T n J9 35 36 37 k) → (EqJ [34, 35, 36, 37] J J9) → T 0 0 + 1 ≤ k + n15 → ∀ (H : Heap) (locs : List Loc), va_P D vwCl (Wd y ad cap I J9) H → va_D A (Wd y ad cap I J9) → va_S A s.heap H locs → ∀ ls : Array Slot, lv_has ls 8 [(0, .ref (ad 34)), (1, .ref (ad 18)), (2, .ref (ad 46)), (3, .long (lN (sAt T n k))), (5, .long (lN (up (T 0 5) (T 0 6)))), (7, .int (nI k))] → W p l e (headSpec [.code yX0_find cX0_find 8 none] ({ frames := 2, cells := 0, slots := 0, locals := 43 })).room s m ([.ref (ad 34), .ref (ad 18), .ref (ad 46)] : List Value).toArray below meth c H locs 0 0 (MQ below (va_Qv (fun u : St4 => ∃ J', u = (ad, cap, I, J') ∧ AdrJ T n J' 35 36 37 (T 0 0) ∧ J' 34 3 = lN (sAt T n (T 0 0)) ∧ EqJ [34, 35, 36, 37] J J') (Aft D (Wt y) (Wd y ad cap I J) s.heap.size) A) ([.ref (ad 34), .ref (ad 18), .ref (ad 46)] : List Value).toArray s 0 0 A) (F0 m 15 ls []) := by
    intro n15
    induction n15 with
    | zero =>
      intro k J9 hk hAd hEq hmeas
      exact absurd hmeas (by omega)
    | succ n15 ih15 =>
      intro k J9 hk hAd hEq hmeas H locs hP hD hS ls hl
      refine lv_iload hx hb dX0_find_15 (lv_at hl 5 rfl) ?_
      refine lv_aload_n hx hb dX0_find_17 rfl (lv_at hl 1 rfl) ?_
      refine va_getN (D := D) (T := TX7) (N := 8) hx hb hts jnX7 hown hK hP 18 (wd_18 y ad cap I J9) rfl 0 (by decide) (hts _ fn_X0_35) (fun _ h9 => h9) rfl dX0_find_18 ?_
      refine va_getN (D := D) (T := TX5) (N := 5) hx hb hts jnX5 hown hK hP 19 (wd_19 y ad cap I J9) rfl 0 (by decide) (hts _ fn_X0_39) (fun _ h9 => h9) rfl dX0_find_21 ?_
      refine lv_topi (fun v21 ev21 => ?_)
      obtain rfl : v21 = (nI (T 0 0)) := by
        rw [ev21]; exact hT.1.1
      refine lv_icmp_ge (tgt := 138) hx hb dX0_find_24 (by decide) (fun c24 => ?_) (fun c24 => ?_)
      · skip
        have c24 := (nI_leI (a := (T 0 0)) (b := k) (by omega) (by omega)).mp c24
        refine lv_aload_n hx hb dX0_find_138 rfl (lv_at hl 0 rfl) ?_
        refine lv_lload_n hx hb dX0_find_139 rfl (lv_at hl 3 rfl) ?_
        refine va_put (D := D) (T := TX0) (N := 4) (v := .long (lN (sAt T n k))) (ty := .long) hx hb hts jnX0 tyX0 tyX0_ok nmX0 hown hK hP hD hS 34 (wd_34 y ad cap I J9) rfl 3 (by decide) (hts _ fl_X0_21) (fun _ h9 => h9) rfl (by decide +kernel) rfl rfl (Nat.le_of_ble_eq_true rfl) dX0_find_140 (fun H locs hP hD hS => ?_)
        rw [wp_34_3] at hP hD
        generalize eJ140 : va_up J9 34 (vp_updL (J9 34) 3 (lN (sAt T n k))) = J140 at hP hD
        refine W.vret hx hb hr (fun t ht hW => ⟨⟨(ad, cap, I, J140), rfl, ?_, by rw [ht]; exact hP, by show va_D (va_A (Wd y ad cap I J) s.heap.size) _; rw [hAe]; exact hD⟩, hS.F ht⟩) hS.2.2 dX0_find_143
        refine ⟨_, rfl, ?_, ?_, ?_⟩
        · intro s hs
          subst eJ140
          have := hAd s (by omega)
          simpa [va_up] using this
        · subst eJ140
          have : k = T 0 0 := by omega
          simp [va_up, vp_updL, this]
        · subst eJ140
          exact EqJ.up hEq (by decide)
      · skip
        have c24 := mt (nI_leI (a := (T 0 0)) (b := k) (by omega) (by omega)).mpr c24
        obtain ⟨g1, g2, g3⟩ := wS k (by omega)
        have hp12 : 2 ^ T 2 k ≤ 2 ^ 12 := Nat.pow_le_pow_right (by decide) g2
        have hsk := sAt_le hW0 hn k (by omega)
        have hsa := sA_le hW0 hn (s := k) (by omega)
        have hnk := hn k
        refine lv_aload_n hx hb dX0_find_27 rfl (lv_at hl 0 rfl) ?_
        refine va_get (D := D) (T := TX0) (N := 4) hx hb hts jnX0 hown hK hP 34 (wd_34 y ad cap I J9) rfl 0 (by decide) (hts _ fl_X0_9) (fun _ h9 => h9) rfl dX0_find_28 ?_
        refine lv_iload hx hb dX0_find_31 (lv_at hl 5 rfl) ?_
        refine lv_lload_n hx hb dX0_find_33 rfl (lv_at hl 3 rfl) ?_
        refine lv_aload_n hx hb dX0_find_34 rfl (lv_at hl 1 rfl) ?_
        refine va_getN (D := D) (T := TX7) (N := 8) hx hb hts jnX7 hown hK hP 18 (wd_18 y ad cap I J9) rfl 0 (by decide) (hts _ fn_X0_35) (fun _ h9 => h9) rfl dX0_find_35 ?_
        refine va_getN (D := D) (T := TX5) (N := 5) hx hb hts jnX5 hown hK hP 19 (wd_19 y ad cap I J9) rfl 3 (by decide) (hts _ fn_X0_44) (fun _ h9 => h9) rfl dX0_find_38 ?_
        refine lv_iload hx hb dX0_find_41 (lv_at hl 5 rfl) ?_
        refine va_iald (D := D) hx hb hK hP 21 0 (wd_21 y ad cap I J9) rfl (vp_in_nI (by omega) (by omega)) dX0_find_43 ?_
        rw [nI_clamp (n := k) (by omega)]
        refine lv_topi (fun v43 ev43 => ?_)
        obtain rfl : v43 = (nI (2 ^ T 2 k)) := by
          rw [ev43]; exact (hT.2.1 _ (by omega)).2.1
        refine lv_i2l (v := lN (2 ^ T 2 k)) hx hb dX0_find_44 (nI_l (by omega)) ?_
        refine rk_l (run_sn (As := [.long (lN (sAt T n k)), .long (lN (2 ^ T 2 k))]) (rest := [.int (nI k), .ref (ad 35)]) hx hb hml hown hO.2 (c_X8_alignUp l D y (a0 := sAt T n k) (k0 := T 2 k) (by omega) (by omega)) k_X8_alignUp mn_X0_48 ⟨rfl, rfl⟩ ⟨Nat.le_of_ble_eq_true rfl, Nat.le_of_ble_eq_true rfl⟩ (pre_SR hO hP) rfl hl.1 rfl (Nat.le_of_ble_eq_true rfl) dX0_find_45 ⟨(Nat.zero_le _), (Nat.zero_le _)⟩) (fun r45 er45 => ?_)
        try dsimp only at er45
        obtain rfl : r45 = (lN (sA T n k)) := by
          exact er45
        refine va_last (D := D) hx hb hK hP hD hS 35 1 (wd_35 y ad cap I J9) rfl (vp_in_nI (by omega) (by omega)) dX0_find_48 (fun H locs hP hD hS => ?_)
        rw [nI_clamp (n := k) (by omega)] at hP hD
        rw [ws_35] at hP hD
        generalize eJ48 : va_up J9 35 (vp_updL (J9 35) k (lN (sA T n k))) = J48 at hP hD
        refine lv_aload_n hx hb dX0_find_49 rfl (lv_at hl 0 rfl) ?_
        refine va_get (D := D) (T := TX0) (N := 4) hx hb hts jnX0 hown hK hP 34 (wd_34 y ad cap I J48) rfl 0 (by decide) (hts _ fl_X0_9) (fun _ h9 => h9) rfl dX0_find_50 ?_
        refine lv_iload hx hb dX0_find_53 (lv_at hl 5 rfl) ?_
        refine va_lald (D := D) hx hb hK hP 35 1 (wd_35 y ad cap I J48) rfl (vp_in_nI (by omega) (by omega)) dX0_find_55 ?_
        rw [nI_clamp (n := k) (by omega)]
        refine lv_topl (fun v55 ev55 => ?_)
        obtain rfl : v55 = (lN (sA T n k)) := by
          rw [ev55, ← eJ48]; simp [va_up, vp_updL]
        refine lv_aload_n hx hb dX0_find_56 rfl (lv_at hl 1 rfl) ?_
        refine va_getN (D := D) (T := TX7) (N := 8) hx hb hts jnX7 hown hK hP 18 (wd_18 y ad cap I J48) rfl 0 (by decide) (hts _ fn_X0_35) (fun _ h9 => h9) rfl dX0_find_57 ?_
        refine va_getN (D := D) (T := TX5) (N := 5) hx hb hts jnX5 hown hK hP 19 (wd_19 y ad cap I J48) rfl 2 (by decide) (hts _ fn_X0_52) (fun _ h9 => h9) rfl dX0_find_60 ?_
        refine lv_iload hx hb dX0_find_63 (lv_at hl 5 rfl) ?_
        refine va_iald (D := D) hx hb hK hP 20 0 (wd_20 y ad cap I J48) rfl (vp_in_nI (by omega) (by omega)) dX0_find_65 ?_
        rw [nI_clamp (n := k) (by omega)]
        refine lv_topi (fun v65 ev65 => ?_)
        obtain rfl : v65 = (nI (T 1 k)) := by
          rw [ev65]; exact (hT.2.1 _ (by omega)).1
        refine lv_i2l (v := lN (T 1 k)) hx hb dX0_find_66 (nI_l (by omega)) ?_
        refine lv_ladd hx hb dX0_find_67 ?_
        refine lv_topl (fun v67 ev67 => ?_)
        obtain rfl : v67 = (lN ((sA T n k) + (T 1 k))) := by rw [ev67, lN_add]
        refine lv_lstore_n (lv' := [(3, .long (lN ((sA T n k) + (T 1 k)))), (0, .ref (ad 34)), (1, .ref (ad 18)), (2, .ref (ad 46)), (5, .long (lN (up (T 0 5) (T 0 6)))), (7, .int (nI k))]) hx hb dX0_find_68 rfl hl (by decide) rfl (fun ls hl => ?_)
        refine lv_aload_n hx hb dX0_find_69 rfl (lv_at hl 1 rfl) ?_
        refine va_get (D := D) (T := TX0) (N := 4) hx hb hts jnX0 hown hK hP 34 (wd_34 y ad cap I J48) rfl 1 (by decide) (hts _ fl_X0_15) (fun _ h9 => h9) rfl dX0_find_70 ?_
        refine lv_iload hx hb dX0_find_73 (lv_at hl 5 rfl) ?_
        refine lv_lload_n hx hb dX0_find_75 rfl (lv_at hl 0 rfl) ?_
        refine lv_aload_n hx hb dX0_find_76 rfl (lv_at hl 2 rfl) ?_
        refine va_getN (D := D) (T := TX7) (N := 8) hx hb hts jnX7 hown hK hP 18 (wd_18 y ad cap I J48) rfl 6 (by decide) (hts _ fn_X0_55) (fun _ h9 => h9) rfl dX0_find_77 ?_
        refine lv_topi (fun v77 ev77 => ?_)
        obtain rfl : v77 = (nI (2 ^ T 0 6)) := by
          rw [ev77]; exact hT.1.2.2.2.2.2.2.1
        refine lv_i2l (v := lN (2 ^ T 0 6)) hx hb dX0_find_80 (nI_l (by omega)) ?_
        refine rk_l (run_sn (As := [.long (lN ((sA T n k) + (T 1 k))), .long (lN (2 ^ T 0 6))]) (rest := [.int (nI k), .ref (ad 36)]) hx hb hml hown hO.2 (c_X8_alignUp l D y (a0 := sA T n k + T 1 k) (k0 := T 0 6) (by omega) (by omega)) k_X8_alignUp mn_X0_48 ⟨rfl, rfl⟩ ⟨Nat.le_of_ble_eq_true rfl, Nat.le_of_ble_eq_true rfl⟩ (pre_SR hO hP) rfl hl.1 rfl (Nat.le_of_ble_eq_true rfl) dX0_find_81 ⟨(Nat.zero_le _), (Nat.zero_le _)⟩) (fun r81 er81 => ?_)
        try dsimp only at er81
        obtain rfl : r81 = (lN (pS T n k)) := by
          exact er81
        refine va_last (D := D) hx hb hK hP hD hS 36 1 (wd_36 y ad cap I J48) rfl (vp_in_nI (by omega) (by omega)) dX0_find_84 (fun H locs hP hD hS => ?_)
        rw [nI_clamp (n := k) (by omega)] at hP hD
        rw [ws_36] at hP hD
        generalize eJ84 : va_up J48 36 (vp_updL (J48 36) k (lN (pS T n k))) = J84 at hP hD
        refine lv_aload_n hx hb dX0_find_85 rfl (lv_at hl 1 rfl) ?_
        refine va_get (D := D) (T := TX0) (N := 4) hx hb hts jnX0 hown hK hP 34 (wd_34 y ad cap I J84) rfl 2 (by decide) (hts _ fl_X0_18) (fun _ h9 => h9) rfl dX0_find_86 ?_
        refine lv_iload hx hb dX0_find_89 (lv_at hl 5 rfl) ?_
        refine lv_aload_n hx hb dX0_find_91 rfl (lv_at hl 1 rfl) ?_
        refine va_get (D := D) (T := TX0) (N := 4) hx hb hts jnX0 hown hK hP 34 (wd_34 y ad cap I J84) rfl 1 (by decide) (hts _ fl_X0_15) (fun _ h9 => h9) rfl dX0_find_92 ?_
        refine lv_iload hx hb dX0_find_95 (lv_at hl 5 rfl) ?_
        refine va_lald (D := D) hx hb hK hP 36 1 (wd_36 y ad cap I J84) rfl (vp_in_nI (by omega) (by omega)) dX0_find_97 ?_
        rw [nI_clamp (n := k) (by omega)]
        refine lv_topl (fun v97 ev97 => ?_)
        obtain rfl : v97 = (lN (pS T n k)) := by
          rw [ev97, ← eJ84]; simp [va_up, vp_updL]
        refine lv_aload_n hx hb dX0_find_98 rfl (lv_at hl 3 rfl) ?_
        refine lv_iload hx hb dX0_find_99 (lv_at hl 5 rfl) ?_
        refine va_iald (D := D) hx hb hK hP 46 0 (wd_46 y ad cap I J84) rfl (vp_in_nI (by omega) (by omega)) dX0_find_101 ?_
        rw [nI_clamp (n := k) (by omega)]
        refine lv_topi (fun v101 ev101 => ?_)
        obtain rfl : v101 = (nI (n k)) := by
          rw [ev101]; exact hn9 k (by omega)
        refine lv_i2l (v := lN (n k)) hx hb dX0_find_102 (nI_l (by omega)) ?_
        refine lv_lload hx hb dX0_find_103 (lv_at hl 4 rfl) ?_
        refine lv_lmul hx hb dX0_find_105 ?_
        refine lv_topl (fun v105 ev105 => ?_)
        obtain rfl : v105 = (lN ((n k) * (up (T 0 5) (T 0 6)))) := by rw [ev105, lN_mul]
        refine lv_ladd hx hb dX0_find_106 ?_
        refine lv_topl (fun v106 ev106 => ?_)
        obtain rfl : v106 = (lN (pE T n k)) := by
          rw [ev106, lN_add]; rfl
        refine va_last (D := D) hx hb hK hP hD hS 37 1 (wd_37 y ad cap I J84) rfl (vp_in_nI (by omega) (by omega)) dX0_find_107 (fun H locs hP hD hS => ?_)
        rw [nI_clamp (n := k) (by omega)] at hP hD
        rw [ws_37] at hP hD
        generalize eJ107 : va_up J84 37 (vp_updL (J84 37) k (lN (pE T n k))) = J107 at hP hD
        refine lv_aload_n hx hb dX0_find_108 rfl (lv_at hl 3 rfl) ?_
        refine lv_iload hx hb dX0_find_109 (lv_at hl 5 rfl) ?_
        refine va_iald (D := D) hx hb hK hP 46 0 (wd_46 y ad cap I J107) rfl (vp_in_nI (by omega) (by omega)) dX0_find_111 ?_
        rw [nI_clamp (n := k) (by omega)]
        refine lv_topi (fun v111 ev111 => ?_)
        obtain rfl : v111 = (nI (n k)) := by
          rw [ev111]; exact hn9 k (by omega)
        refine lv_if_le (tgt := 132) hx hb dX0_find_112 (by decide) (fun c112 => ?_) (fun c112 => ?_)
        · skip
          have hz : n k = 0 := by rw [show (0 : Int32) = nI 0 from rfl, nI_leI (by omega) (by omega)] at c112; omega
          have eS := sAt_zero (T := T) (n := n) hz
          refine lv_iinc (v := (nI (k + 1))) (lv' := [(7, .int (nI (k + 1))), (3, .long (lN ((sA T n k) + (T 1 k)))), (0, .ref (ad 34)), (1, .ref (ad 18)), (2, .ref (ad 46)), (5, .long (lN (up (T 0 5) (T 0 6))))]) hx hb dX0_find_132 hl (k := 5) rfl (nI_1 _) (by decide) rfl (fun ls hl => ?_)
          refine lv_goto (tgt := 15) hx hb dX0_find_135 (by decide) ?_
          exact ih15 (k + 1) J107 (by omega) (AdrJ_step (by decide) (by decide) (by decide) hAd eJ48 eJ84 eJ107) (by subst eJ48 eJ84 eJ107; refine EqJ.up (EqJ.up (EqJ.up hEq ?_) ?_) ?_ <;> decide) (by omega) _ _ hP hD hS ls (by rw [eS]; exact lv_sub hl [2, 3, 4, 1, 5, 0] rfl)
        · skip
          have hz : ¬ n k = 0 := fun h9 => c112 (by rw [h9]; decide)
          have eS := sAt_some (T := T) (n := n) hz
          refine lv_aload_n hx hb dX0_find_115 rfl (lv_at hl 1 rfl) ?_
          refine va_get (D := D) (T := TX0) (N := 4) hx hb hts jnX0 hown hK hP 34 (wd_34 y ad cap I J107) rfl 2 (by decide) (hts _ fl_X0_18) (fun _ h9 => h9) rfl dX0_find_116 ?_
          refine lv_iload hx hb dX0_find_119 (lv_at hl 5 rfl) ?_
          refine va_lald (D := D) hx hb hK hP 37 1 (wd_37 y ad cap I J107) rfl (vp_in_nI (by omega) (by omega)) dX0_find_121 ?_
          rw [nI_clamp (n := k) (by omega)]
          refine lv_topl (fun v121 ev121 => ?_)
          obtain rfl : v121 = (lN (pE T n k)) := by
            rw [ev121, ← eJ107]; simp [va_up, vp_updL]
          refine lv_lload hx hb dX0_find_122 (lv_at hl 4 rfl) ?_
          refine lv_lsub hx hb dX0_find_124 ?_
          refine lv_topl (fun v124 ev124 => ?_)
          obtain rfl : v124 = (lN (pS T n k + (n k - 1) * up (T 0 5) (T 0 6))) := by
            rw [ev124]; exact pE_sub hz
          refine lv_aload_n hx hb dX0_find_125 rfl (lv_at hl 2 rfl) ?_
          refine va_getN (D := D) (T := TX7) (N := 8) hx hb hts jnX7 hown hK hP 18 (wd_18 y ad cap I J107) rfl 5 (by decide) (hts _ fn_X0_58) (fun _ h9 => h9) rfl dX0_find_126 ?_
          refine lv_topi (fun v126 ev126 => ?_)
          obtain rfl : v126 = (nI (T 0 5)) := by
            rw [ev126]; exact hT.1.2.2.2.2.2.1
          refine lv_i2l (v := lN (T 0 5)) hx hb dX0_find_129 (nI_l (by omega)) ?_
          refine lv_ladd hx hb dX0_find_130 ?_
          refine lv_topl (fun v130 ev130 => ?_)
          obtain rfl : v130 = (lN ((pS T n k + (n k - 1) * up (T 0 5) (T 0 6)) + (T 0 5))) := by rw [ev130, lN_add]
          refine lv_lstore_n (lv' := [(3, .long (lN ((pS T n k + (n k - 1) * up (T 0 5) (T 0 6)) + (T 0 5)))), (0, .ref (ad 34)), (1, .ref (ad 18)), (2, .ref (ad 46)), (5, .long (lN (up (T 0 5) (T 0 6)))), (7, .int (nI k))]) hx hb dX0_find_131 rfl hl (by decide) rfl (fun ls hl => ?_)
          refine lv_iinc (v := (nI (k + 1))) (lv' := [(7, .int (nI (k + 1))), (3, .long (lN ((pS T n k + (n k - 1) * up (T 0 5) (T 0 6)) + (T 0 5)))), (0, .ref (ad 34)), (1, .ref (ad 18)), (2, .ref (ad 46)), (5, .long (lN (up (T 0 5) (T 0 6))))]) hx hb dX0_find_132 hl (k := 5) rfl (nI_1 _) (by decide) rfl (fun ls hl => ?_)
          refine lv_goto (tgt := 15) hx hb dX0_find_135 (by decide) ?_
          exact ih15 (k + 1) J107 (by omega) (AdrJ_step (by decide) (by decide) (by decide) hAd eJ48 eJ84 eJ107) (by subst eJ48 eJ84 eJ107; refine EqJ.up (EqJ.up (EqJ.up hEq ?_) ?_) ?_ <;> decide) (by omega) _ _ hP hD hS ls (by rw [eS]; exact lv_sub hl [2, 3, 4, 1, 5, 0] rfl)
  exact loop15 (T 0 0 + 1) 0 J (by omega) (fun s hs => absurd hs (by omega)) EqJ.rf (by omega) _ _ hP hD hS ls (by exact lv_sub hl [3, 4, 5, 2, 1, 0] rfl)
set_option maxHeartbeats 4000000 in
set_option maxRecDepth 100000 in
theorem c_find50 (l : Launch) (D : va_G) (y : Nat → ClassId) (ad : Nat → Nat) (cap : Nat → Nat) (I : Nat → Nat → Int32) (J : Nat → Nat → Int64) (sz : Nat) {T : Nat → Nat → Nat} {n : Nat → Nat} (hT : RT1 I T) (hW : WF T) (hn : ∀ s, n s ≤ 2400) (hn9 : ∀ s, s < T 0 0 → I 54 s = nI (n s)) : Met l yX0_find [.code yX0_find cX0_find 8 none] ({ frames := 2, cells := 0, slots := 0, locals := 43 }) (va_Pc [.ref (ad 50), .ref (ad 1), .ref (ad 54)] (PW D y (Wd y ad cap I J) sz)) (va_Qv (fun u : St4 => ∃ J', u = (ad, cap, I, J') ∧ AdrJ T n J' 51 52 53 (T 0 0) ∧ J' 50 3 = lN (sAt T n (T 0 0)) ∧ EqJ [50, 51, 52, 53] J J') (Aft D (Wt y) (Wd y ad cap I J) sz) (va_A (Wd y ad cap I J) sz)) 0 0 (va_A (Wd y ad cap I J) sz) := by
  refine Met.ofW (cc := cX0_find) (maxL := 8) (ret := none) (by decide) rfl ?_
  intro p e s m args below meth c s₁ B hml hv
  obtain ⟨rfl, rfl, hP, hD0, hO⟩ := hv
  have hx := B.exec
  have hb := B.bytes
  have hr := B.returns
  have hown : s.vm.findClass RX0 = some m.cls := findClass_of_methodNamed B.named
  have hlocks := B.notSynchronized
  have hK := hO.1
  have hts : ∀ w ∈ lw_E, w.before ([.ref (ad 50), .ref (ad 1), .ref (ad 54)] : List Value).toArray s = true := fun w h => hO.2 w h _
  clear B
  have hD := hD0.self (sz := s.heap.size)
  generalize hAe : va_A (Wd y ad cap I J) s.heap.size = A at hD ⊢
  have hA : ∀ q : Nat, s.heap.size ≤ q → A q := fun q h => by rw [← hAe]; exact Or.inr h
  have hS : va_S A s.heap s.heap [] := va_S.rf
  have hl := lv_entry ([.ref (ad 50), .ref (ad 1), .ref (ad 54)]) (n := 8) (Nat.le_of_ble_eq_true rfl)
  rw [lg_entry_eq]
  generalize (lg_sl ([.ref (ad 50), .ref (ad 1), .ref (ad 54)]) ++ List.replicate (8 - (lg_sl ([.ref (ad 50), .ref (ad 1), .ref (ad 54)])).length) Slot.unset).toArray = ls at hl ⊢
  have hl : lv_has ls 8 [(0, .ref (ad 50)), (1, .ref (ad 1)), (2, .ref (ad 54))] := hl
  have hW0 := hW
  obtain ⟨⟨w1, w2, w3, w4, w5, w6, w7⟩, wS, wL, wB, wK, wTk, wT0⟩ := hW
  have h26 : 2 ^ T 0 6 ≤ 2 ^ 6 := Nat.pow_le_pow_right (by decide) w7
  have hst0 := hT.1.2.2.2.2.1
  refine lv_aload_n hx hb dX0_find_0 rfl (lv_at hl 1 rfl) ?_
  refine va_getN (D := D) (T := TX7) (N := 8) hx hb hts jnX7 hown hK hP 1 (wd_1 y ad cap I J) rfl 4 (by decide) (hts _ fn_X0_25) (fun _ h9 => h9) rfl dX0_find_1 ?_
  refine lv_topi (fun v1 ev1 => ?_)
  obtain rfl : v1 = (nI (T 0 4)) := by
    rw [ev1]; exact hT.1.2.2.2.2.1
  refine lv_i2l (v := lN (T 0 4)) hx hb dX0_find_4 (nI_l (by omega)) ?_
  refine lv_lstore_n (lv' := [(3, .long (lN (T 0 4))), (0, .ref (ad 50)), (1, .ref (ad 1)), (2, .ref (ad 54))]) hx hb dX0_find_5 rfl hl (by decide) rfl (fun ls hl => ?_)
  refine lv_aload_n hx hb dX0_find_6 rfl (lv_at hl 2 rfl) ?_
  refine rk_l (run_vn (As := []) (rest := []) (b := (ad 1)) hx hb hml hown hO.2 (c_X7_thunkStride l D y (n1 := T 0 5) (n2 := T 0 6) (hT.1.2.2.2.2.2.1 ▸ hT.1.2.2.2.2.2.2.1 ▸ wd_1 y ad cap I J) w6 w7) k_X7_thunkStride mn_X0_31 ⟨rfl, rfl⟩ ⟨Nat.le_of_ble_eq_true rfl, Nat.le_of_ble_eq_true rfl⟩ (pre_VR hO hP (wd_1 y ad cap I J) rfl) rfl hl.1 rfl (Nat.le_of_ble_eq_true rfl) dX0_find_7 ⟨(Nat.zero_le _), (Nat.zero_le _)⟩) (fun r7 er7 => ?_)
  try dsimp only at er7
  obtain rfl : r7 = (lN (up (T 0 5) (T 0 6))) := by
    exact er7
  refine lv_lstore (lv' := [(5, .long (lN (up (T 0 5) (T 0 6)))), (3, .long (lN (T 0 4))), (0, .ref (ad 50)), (1, .ref (ad 1)), (2, .ref (ad 54))]) hx hb dX0_find_10 hl (by decide) rfl (fun ls hl => ?_)
  refine lv_iconst (v := 0) hx hb dX0_find_12 (by decide) ?_
  rw [show (0 : Int32) = (nI 0) from rfl]
  refine lv_istore (lv' := [(7, .int (nI 0)), (5, .long (lN (up (T 0 5) (T 0 6)))), (3, .long (lN (T 0 4))), (0, .ref (ad 50)), (1, .ref (ad 1)), (2, .ref (ad 54))]) hx hb dX0_find_13 hl (by decide) rfl (fun ls hl => ?_)
  have loop15 : ∀ (n15 : Nat) (k : Nat) (J9 : Nat → Nat → Int64) , (k ≤ T 0 0) → (AdrJ T n J9 51 52 53 k) → (EqJ [50, 51, 52, 53] J J9) → T 0 0 + 1 ≤ k + n15 → ∀ (H : Heap) (locs : List Loc), va_P D vwCl (Wd y ad cap I J9) H → va_D A (Wd y ad cap I J9) → va_S A s.heap H locs → ∀ ls : Array Slot, lv_has ls 8 [(0, .ref (ad 50)), (1, .ref (ad 1)), (2, .ref (ad 54)), (3, .long (lN (sAt T n k))), (5, .long (lN (up (T 0 5) (T 0 6)))), (7, .int (nI k))] → W p l e (headSpec [.code yX0_find cX0_find 8 none] ({ frames := 2, cells := 0, slots := 0, locals := 43 })).room s m ([.ref (ad 50), .ref (ad 1), .ref (ad 54)] : List Value).toArray below meth c H locs 0 0 (MQ below (va_Qv (fun u : St4 => ∃ J', u = (ad, cap, I, J') ∧ AdrJ T n J' 51 52 53 (T 0 0) ∧ J' 50 3 = lN (sAt T n (T 0 0)) ∧ EqJ [50, 51, 52, 53] J J') (Aft D (Wt y) (Wd y ad cap I J) s.heap.size) A) ([.ref (ad 50), .ref (ad 1), .ref (ad 54)] : List Value).toArray s 0 0 A) (F0 m 15 ls []) := by
    intro n15
    induction n15 with
    | zero =>
      intro k J9 hk hAd hEq hmeas
      exact absurd hmeas (by omega)
    | succ n15 ih15 =>
      intro k J9 hk hAd hEq hmeas H locs hP hD hS ls hl
      refine lv_iload hx hb dX0_find_15 (lv_at hl 5 rfl) ?_
      refine lv_aload_n hx hb dX0_find_17 rfl (lv_at hl 1 rfl) ?_
      refine va_getN (D := D) (T := TX7) (N := 8) hx hb hts jnX7 hown hK hP 1 (wd_1 y ad cap I J9) rfl 0 (by decide) (hts _ fn_X0_35) (fun _ h9 => h9) rfl dX0_find_18 ?_
      refine va_getN (D := D) (T := TX5) (N := 5) hx hb hts jnX5 hown hK hP 2 (wd_2 y ad cap I J9) rfl 0 (by decide) (hts _ fn_X0_39) (fun _ h9 => h9) rfl dX0_find_21 ?_
      refine lv_topi (fun v21 ev21 => ?_)
      obtain rfl : v21 = (nI (T 0 0)) := by
        rw [ev21]; exact hT.1.1
      refine lv_icmp_ge (tgt := 138) hx hb dX0_find_24 (by decide) (fun c24 => ?_) (fun c24 => ?_)
      · skip
        have c24 := (nI_leI (a := (T 0 0)) (b := k) (by omega) (by omega)).mp c24
        refine lv_aload_n hx hb dX0_find_138 rfl (lv_at hl 0 rfl) ?_
        refine lv_lload_n hx hb dX0_find_139 rfl (lv_at hl 3 rfl) ?_
        refine va_put (D := D) (T := TX0) (N := 4) (v := .long (lN (sAt T n k))) (ty := .long) hx hb hts jnX0 tyX0 tyX0_ok nmX0 hown hK hP hD hS 50 (wd_50 y ad cap I J9) rfl 3 (by decide) (hts _ fl_X0_21) (fun _ h9 => h9) rfl (by decide +kernel) rfl rfl (Nat.le_of_ble_eq_true rfl) dX0_find_140 (fun H locs hP hD hS => ?_)
        rw [wp_50_3] at hP hD
        generalize eJ140 : va_up J9 50 (vp_updL (J9 50) 3 (lN (sAt T n k))) = J140 at hP hD
        refine W.vret hx hb hr (fun t ht hW => ⟨⟨(ad, cap, I, J140), rfl, ?_, by rw [ht]; exact hP, by show va_D (va_A (Wd y ad cap I J) s.heap.size) _; rw [hAe]; exact hD⟩, hS.F ht⟩) hS.2.2 dX0_find_143
        refine ⟨_, rfl, ?_, ?_, ?_⟩
        · intro s hs
          subst eJ140
          have := hAd s (by omega)
          simpa [va_up] using this
        · subst eJ140
          have : k = T 0 0 := by omega
          simp [va_up, vp_updL, this]
        · subst eJ140
          exact EqJ.up hEq (by decide)
      · skip
        have c24 := mt (nI_leI (a := (T 0 0)) (b := k) (by omega) (by omega)).mpr c24
        obtain ⟨g1, g2, g3⟩ := wS k (by omega)
        have hp12 : 2 ^ T 2 k ≤ 2 ^ 12 := Nat.pow_le_pow_right (by decide) g2
        have hsk := sAt_le hW0 hn k (by omega)
        have hsa := sA_le hW0 hn (s := k) (by omega)
        have hnk := hn k
        refine lv_aload_n hx hb dX0_find_27 rfl (lv_at hl 0 rfl) ?_
        refine va_get (D := D) (T := TX0) (N := 4) hx hb hts jnX0 hown hK hP 50 (wd_50 y ad cap I J9) rfl 0 (by decide) (hts _ fl_X0_9) (fun _ h9 => h9) rfl dX0_find_28 ?_
        refine lv_iload hx hb dX0_find_31 (lv_at hl 5 rfl) ?_
        refine lv_lload_n hx hb dX0_find_33 rfl (lv_at hl 3 rfl) ?_
        refine lv_aload_n hx hb dX0_find_34 rfl (lv_at hl 1 rfl) ?_
        refine va_getN (D := D) (T := TX7) (N := 8) hx hb hts jnX7 hown hK hP 1 (wd_1 y ad cap I J9) rfl 0 (by decide) (hts _ fn_X0_35) (fun _ h9 => h9) rfl dX0_find_35 ?_
        refine va_getN (D := D) (T := TX5) (N := 5) hx hb hts jnX5 hown hK hP 2 (wd_2 y ad cap I J9) rfl 3 (by decide) (hts _ fn_X0_44) (fun _ h9 => h9) rfl dX0_find_38 ?_
        refine lv_iload hx hb dX0_find_41 (lv_at hl 5 rfl) ?_
        refine va_iald (D := D) hx hb hK hP 4 0 (wd_4 y ad cap I J9) rfl (vp_in_nI (by omega) (by omega)) dX0_find_43 ?_
        rw [nI_clamp (n := k) (by omega)]
        refine lv_topi (fun v43 ev43 => ?_)
        obtain rfl : v43 = (nI (2 ^ T 2 k)) := by
          rw [ev43]; exact (hT.2.1 _ (by omega)).2.1
        refine lv_i2l (v := lN (2 ^ T 2 k)) hx hb dX0_find_44 (nI_l (by omega)) ?_
        refine rk_l (run_sn (As := [.long (lN (sAt T n k)), .long (lN (2 ^ T 2 k))]) (rest := [.int (nI k), .ref (ad 51)]) hx hb hml hown hO.2 (c_X8_alignUp l D y (a0 := sAt T n k) (k0 := T 2 k) (by omega) (by omega)) k_X8_alignUp mn_X0_48 ⟨rfl, rfl⟩ ⟨Nat.le_of_ble_eq_true rfl, Nat.le_of_ble_eq_true rfl⟩ (pre_SR hO hP) rfl hl.1 rfl (Nat.le_of_ble_eq_true rfl) dX0_find_45 ⟨(Nat.zero_le _), (Nat.zero_le _)⟩) (fun r45 er45 => ?_)
        try dsimp only at er45
        obtain rfl : r45 = (lN (sA T n k)) := by
          exact er45
        refine va_last (D := D) hx hb hK hP hD hS 51 1 (wd_51 y ad cap I J9) rfl (vp_in_nI (by omega) (by omega)) dX0_find_48 (fun H locs hP hD hS => ?_)
        rw [nI_clamp (n := k) (by omega)] at hP hD
        rw [ws_51] at hP hD
        generalize eJ48 : va_up J9 51 (vp_updL (J9 51) k (lN (sA T n k))) = J48 at hP hD
        refine lv_aload_n hx hb dX0_find_49 rfl (lv_at hl 0 rfl) ?_
        refine va_get (D := D) (T := TX0) (N := 4) hx hb hts jnX0 hown hK hP 50 (wd_50 y ad cap I J48) rfl 0 (by decide) (hts _ fl_X0_9) (fun _ h9 => h9) rfl dX0_find_50 ?_
        refine lv_iload hx hb dX0_find_53 (lv_at hl 5 rfl) ?_
        refine va_lald (D := D) hx hb hK hP 51 1 (wd_51 y ad cap I J48) rfl (vp_in_nI (by omega) (by omega)) dX0_find_55 ?_
        rw [nI_clamp (n := k) (by omega)]
        refine lv_topl (fun v55 ev55 => ?_)
        obtain rfl : v55 = (lN (sA T n k)) := by
          rw [ev55, ← eJ48]; simp [va_up, vp_updL]
        refine lv_aload_n hx hb dX0_find_56 rfl (lv_at hl 1 rfl) ?_
        refine va_getN (D := D) (T := TX7) (N := 8) hx hb hts jnX7 hown hK hP 1 (wd_1 y ad cap I J48) rfl 0 (by decide) (hts _ fn_X0_35) (fun _ h9 => h9) rfl dX0_find_57 ?_
        refine va_getN (D := D) (T := TX5) (N := 5) hx hb hts jnX5 hown hK hP 2 (wd_2 y ad cap I J48) rfl 2 (by decide) (hts _ fn_X0_52) (fun _ h9 => h9) rfl dX0_find_60 ?_
        refine lv_iload hx hb dX0_find_63 (lv_at hl 5 rfl) ?_
        refine va_iald (D := D) hx hb hK hP 3 0 (wd_3 y ad cap I J48) rfl (vp_in_nI (by omega) (by omega)) dX0_find_65 ?_
        rw [nI_clamp (n := k) (by omega)]
        refine lv_topi (fun v65 ev65 => ?_)
        obtain rfl : v65 = (nI (T 1 k)) := by
          rw [ev65]; exact (hT.2.1 _ (by omega)).1
        refine lv_i2l (v := lN (T 1 k)) hx hb dX0_find_66 (nI_l (by omega)) ?_
        refine lv_ladd hx hb dX0_find_67 ?_
        refine lv_topl (fun v67 ev67 => ?_)
        obtain rfl : v67 = (lN ((sA T n k) + (T 1 k))) := by rw [ev67, lN_add]
        refine lv_lstore_n (lv' := [(3, .long (lN ((sA T n k) + (T 1 k)))), (0, .ref (ad 50)), (1, .ref (ad 1)), (2, .ref (ad 54)), (5, .long (lN (up (T 0 5) (T 0 6)))), (7, .int (nI k))]) hx hb dX0_find_68 rfl hl (by decide) rfl (fun ls hl => ?_)
        refine lv_aload_n hx hb dX0_find_69 rfl (lv_at hl 1 rfl) ?_
        refine va_get (D := D) (T := TX0) (N := 4) hx hb hts jnX0 hown hK hP 50 (wd_50 y ad cap I J48) rfl 1 (by decide) (hts _ fl_X0_15) (fun _ h9 => h9) rfl dX0_find_70 ?_
        refine lv_iload hx hb dX0_find_73 (lv_at hl 5 rfl) ?_
        refine lv_lload_n hx hb dX0_find_75 rfl (lv_at hl 0 rfl) ?_
        refine lv_aload_n hx hb dX0_find_76 rfl (lv_at hl 2 rfl) ?_
        refine va_getN (D := D) (T := TX7) (N := 8) hx hb hts jnX7 hown hK hP 1 (wd_1 y ad cap I J48) rfl 6 (by decide) (hts _ fn_X0_55) (fun _ h9 => h9) rfl dX0_find_77 ?_
        refine lv_topi (fun v77 ev77 => ?_)
        obtain rfl : v77 = (nI (2 ^ T 0 6)) := by
          rw [ev77]; exact hT.1.2.2.2.2.2.2.1
        refine lv_i2l (v := lN (2 ^ T 0 6)) hx hb dX0_find_80 (nI_l (by omega)) ?_
        refine rk_l (run_sn (As := [.long (lN ((sA T n k) + (T 1 k))), .long (lN (2 ^ T 0 6))]) (rest := [.int (nI k), .ref (ad 52)]) hx hb hml hown hO.2 (c_X8_alignUp l D y (a0 := sA T n k + T 1 k) (k0 := T 0 6) (by omega) (by omega)) k_X8_alignUp mn_X0_48 ⟨rfl, rfl⟩ ⟨Nat.le_of_ble_eq_true rfl, Nat.le_of_ble_eq_true rfl⟩ (pre_SR hO hP) rfl hl.1 rfl (Nat.le_of_ble_eq_true rfl) dX0_find_81 ⟨(Nat.zero_le _), (Nat.zero_le _)⟩) (fun r81 er81 => ?_)
        try dsimp only at er81
        obtain rfl : r81 = (lN (pS T n k)) := by
          exact er81
        refine va_last (D := D) hx hb hK hP hD hS 52 1 (wd_52 y ad cap I J48) rfl (vp_in_nI (by omega) (by omega)) dX0_find_84 (fun H locs hP hD hS => ?_)
        rw [nI_clamp (n := k) (by omega)] at hP hD
        rw [ws_52] at hP hD
        generalize eJ84 : va_up J48 52 (vp_updL (J48 52) k (lN (pS T n k))) = J84 at hP hD
        refine lv_aload_n hx hb dX0_find_85 rfl (lv_at hl 1 rfl) ?_
        refine va_get (D := D) (T := TX0) (N := 4) hx hb hts jnX0 hown hK hP 50 (wd_50 y ad cap I J84) rfl 2 (by decide) (hts _ fl_X0_18) (fun _ h9 => h9) rfl dX0_find_86 ?_
        refine lv_iload hx hb dX0_find_89 (lv_at hl 5 rfl) ?_
        refine lv_aload_n hx hb dX0_find_91 rfl (lv_at hl 1 rfl) ?_
        refine va_get (D := D) (T := TX0) (N := 4) hx hb hts jnX0 hown hK hP 50 (wd_50 y ad cap I J84) rfl 1 (by decide) (hts _ fl_X0_15) (fun _ h9 => h9) rfl dX0_find_92 ?_
        refine lv_iload hx hb dX0_find_95 (lv_at hl 5 rfl) ?_
        refine va_lald (D := D) hx hb hK hP 52 1 (wd_52 y ad cap I J84) rfl (vp_in_nI (by omega) (by omega)) dX0_find_97 ?_
        rw [nI_clamp (n := k) (by omega)]
        refine lv_topl (fun v97 ev97 => ?_)
        obtain rfl : v97 = (lN (pS T n k)) := by
          rw [ev97, ← eJ84]; simp [va_up, vp_updL]
        refine lv_aload_n hx hb dX0_find_98 rfl (lv_at hl 3 rfl) ?_
        refine lv_iload hx hb dX0_find_99 (lv_at hl 5 rfl) ?_
        refine va_iald (D := D) hx hb hK hP 54 0 (wd_54 y ad cap I J84) rfl (vp_in_nI (by omega) (by omega)) dX0_find_101 ?_
        rw [nI_clamp (n := k) (by omega)]
        refine lv_topi (fun v101 ev101 => ?_)
        obtain rfl : v101 = (nI (n k)) := by
          rw [ev101]; exact hn9 k (by omega)
        refine lv_i2l (v := lN (n k)) hx hb dX0_find_102 (nI_l (by omega)) ?_
        refine lv_lload hx hb dX0_find_103 (lv_at hl 4 rfl) ?_
        refine lv_lmul hx hb dX0_find_105 ?_
        refine lv_topl (fun v105 ev105 => ?_)
        obtain rfl : v105 = (lN ((n k) * (up (T 0 5) (T 0 6)))) := by rw [ev105, lN_mul]
        refine lv_ladd hx hb dX0_find_106 ?_
        refine lv_topl (fun v106 ev106 => ?_)
        obtain rfl : v106 = (lN (pE T n k)) := by
          rw [ev106, lN_add]; rfl
        refine va_last (D := D) hx hb hK hP hD hS 53 1 (wd_53 y ad cap I J84) rfl (vp_in_nI (by omega) (by omega)) dX0_find_107 (fun H locs hP hD hS => ?_)
        rw [nI_clamp (n := k) (by omega)] at hP hD
        rw [ws_53] at hP hD
        generalize eJ107 : va_up J84 53 (vp_updL (J84 53) k (lN (pE T n k))) = J107 at hP hD
        refine lv_aload_n hx hb dX0_find_108 rfl (lv_at hl 3 rfl) ?_
        refine lv_iload hx hb dX0_find_109 (lv_at hl 5 rfl) ?_
        refine va_iald (D := D) hx hb hK hP 54 0 (wd_54 y ad cap I J107) rfl (vp_in_nI (by omega) (by omega)) dX0_find_111 ?_
        rw [nI_clamp (n := k) (by omega)]
        refine lv_topi (fun v111 ev111 => ?_)
        obtain rfl : v111 = (nI (n k)) := by
          rw [ev111]; exact hn9 k (by omega)
        refine lv_if_le (tgt := 132) hx hb dX0_find_112 (by decide) (fun c112 => ?_) (fun c112 => ?_)
        · skip
          have hz : n k = 0 := by rw [show (0 : Int32) = nI 0 from rfl, nI_leI (by omega) (by omega)] at c112; omega
          have eS := sAt_zero (T := T) (n := n) hz
          refine lv_iinc (v := (nI (k + 1))) (lv' := [(7, .int (nI (k + 1))), (3, .long (lN ((sA T n k) + (T 1 k)))), (0, .ref (ad 50)), (1, .ref (ad 1)), (2, .ref (ad 54)), (5, .long (lN (up (T 0 5) (T 0 6))))]) hx hb dX0_find_132 hl (k := 5) rfl (nI_1 _) (by decide) rfl (fun ls hl => ?_)
          refine lv_goto (tgt := 15) hx hb dX0_find_135 (by decide) ?_
          exact ih15 (k + 1) J107 (by omega) (AdrJ_step (by decide) (by decide) (by decide) hAd eJ48 eJ84 eJ107) (by subst eJ48 eJ84 eJ107; refine EqJ.up (EqJ.up (EqJ.up hEq ?_) ?_) ?_ <;> decide) (by omega) _ _ hP hD hS ls (by rw [eS]; exact lv_sub hl [2, 3, 4, 1, 5, 0] rfl)
        · skip
          have hz : ¬ n k = 0 := fun h9 => c112 (by rw [h9]; decide)
          have eS := sAt_some (T := T) (n := n) hz
          refine lv_aload_n hx hb dX0_find_115 rfl (lv_at hl 1 rfl) ?_
          refine va_get (D := D) (T := TX0) (N := 4) hx hb hts jnX0 hown hK hP 50 (wd_50 y ad cap I J107) rfl 2 (by decide) (hts _ fl_X0_18) (fun _ h9 => h9) rfl dX0_find_116 ?_
          refine lv_iload hx hb dX0_find_119 (lv_at hl 5 rfl) ?_
          refine va_lald (D := D) hx hb hK hP 53 1 (wd_53 y ad cap I J107) rfl (vp_in_nI (by omega) (by omega)) dX0_find_121 ?_
          rw [nI_clamp (n := k) (by omega)]
          refine lv_topl (fun v121 ev121 => ?_)
          obtain rfl : v121 = (lN (pE T n k)) := by
            rw [ev121, ← eJ107]; simp [va_up, vp_updL]
          refine lv_lload hx hb dX0_find_122 (lv_at hl 4 rfl) ?_
          refine lv_lsub hx hb dX0_find_124 ?_
          refine lv_topl (fun v124 ev124 => ?_)
          obtain rfl : v124 = (lN (pS T n k + (n k - 1) * up (T 0 5) (T 0 6))) := by
            rw [ev124]; exact pE_sub hz
          refine lv_aload_n hx hb dX0_find_125 rfl (lv_at hl 2 rfl) ?_
          refine va_getN (D := D) (T := TX7) (N := 8) hx hb hts jnX7 hown hK hP 1 (wd_1 y ad cap I J107) rfl 5 (by decide) (hts _ fn_X0_58) (fun _ h9 => h9) rfl dX0_find_126 ?_
          refine lv_topi (fun v126 ev126 => ?_)
          obtain rfl : v126 = (nI (T 0 5)) := by
            rw [ev126]; exact hT.1.2.2.2.2.2.1
          refine lv_i2l (v := lN (T 0 5)) hx hb dX0_find_129 (nI_l (by omega)) ?_
          refine lv_ladd hx hb dX0_find_130 ?_
          refine lv_topl (fun v130 ev130 => ?_)
          obtain rfl : v130 = (lN ((pS T n k + (n k - 1) * up (T 0 5) (T 0 6)) + (T 0 5))) := by rw [ev130, lN_add]
          refine lv_lstore_n (lv' := [(3, .long (lN ((pS T n k + (n k - 1) * up (T 0 5) (T 0 6)) + (T 0 5)))), (0, .ref (ad 50)), (1, .ref (ad 1)), (2, .ref (ad 54)), (5, .long (lN (up (T 0 5) (T 0 6)))), (7, .int (nI k))]) hx hb dX0_find_131 rfl hl (by decide) rfl (fun ls hl => ?_)
          refine lv_iinc (v := (nI (k + 1))) (lv' := [(7, .int (nI (k + 1))), (3, .long (lN ((pS T n k + (n k - 1) * up (T 0 5) (T 0 6)) + (T 0 5)))), (0, .ref (ad 50)), (1, .ref (ad 1)), (2, .ref (ad 54)), (5, .long (lN (up (T 0 5) (T 0 6))))]) hx hb dX0_find_132 hl (k := 5) rfl (nI_1 _) (by decide) rfl (fun ls hl => ?_)
          refine lv_goto (tgt := 15) hx hb dX0_find_135 (by decide) ?_
          exact ih15 (k + 1) J107 (by omega) (AdrJ_step (by decide) (by decide) (by decide) hAd eJ48 eJ84 eJ107) (by subst eJ48 eJ84 eJ107; refine EqJ.up (EqJ.up (EqJ.up hEq ?_) ?_) ?_ <;> decide) (by omega) _ _ hP hD hS ls (by rw [eS]; exact lv_sub hl [2, 3, 4, 1, 5, 0] rfl)
  exact loop15 (T 0 0 + 1) 0 J (by omega) (fun s hs => absurd hs (by omega)) EqJ.rf (by omega) _ _ hP hD hS ls (by exact lv_sub hl [3, 4, 5, 2, 1, 0] rfl)
