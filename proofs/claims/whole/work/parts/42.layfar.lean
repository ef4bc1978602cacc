def farC (T : Nat → Nat → Nat) : Nat → Nat
  | 0 => 0
  | k + 1 => farC T k + if dirB T (fun _ => 0) k = true then 0 else 1
theorem farC_le (T : Nat → Nat → Nat) : ∀ k, farC T k ≤ k := by
  intro k
  induction k with
  | zero => simp [farC]
  | succ k ih =>
    simp only [farC]
    split <;> omega
theorem wc2_le (T : Nat → Nat → Nat) (M : List Th) (v n : Nat) (h : n ≤ 200) : wc T M v n < 2 ^ 31 := by
  have := wc_le T M v n
  omega
theorem LQ_eq {I I' : Nat → Nat → Int32} {J J' : Nat → Nat → Int64} {T : Nat → Nat → Nat} {c : Nat} {M : List Th} (h : LQ I J T c M) (hI : ∀ j, 38 ≤ j → j ≤ 49 → I' j = I j) (hJ : ∀ j, 34 ≤ j → j ≤ 45 → J' j = J j) : LQ I' J' T c M := by
  unfold LQ at *
  simp only [hI 38 (by decide) (by decide), hI 39 (by decide) (by decide), hI 40 (by decide) (by decide), hI 41 (by decide) (by decide), hI 42 (by decide) (by decide), hI 43 (by decide) (by decide), hI 44 (by decide) (by decide), hI 48 (by decide) (by decide), hI 49 (by decide) (by decide), hJ 34 (by decide) (by decide), hJ 35 (by decide) (by decide), hJ 36 (by decide) (by decide), hJ 37 (by decide) (by decide), hJ 45 (by decide) (by decide)]
  exact h
set_option maxHeartbeats 4000000 in
set_option maxRecDepth 100000 in
theorem c_X8_lay (l : Launch) (D : va_G) (y : Nat → ClassId) (ad : Nat → Nat) (cap : Nat → Nat) (I : Nat → Nat → Int32) (J : Nat → Nat → Int64) (sz : Nat) {T : Nat → Nat → Nat} (hT1 : RT1 I T) (hW : WF T) (hcp : isCap (cap 0)) : Met l yX8_lay [.code yX8_lay cX8_lay 1 (some .int)] ({ frames := 7, cells := (capAt (cap 0) (layM T).length - cap 0), slots := (50 * (capAt (cap 0) (layM T).length - cap 0)), locals := 183 }) (va_Pc [.ref (ad 0)] (PW D y (Wd y ad cap I J) sz)) (va_Qi (fun (r : Int32) (u : St4) => ∃ cap' I' J', u = (ad, cap', I', J') ∧ cap' 0 = capAt (cap 0) (layM T).length ∧ r = nI (wc T (layM T) 2 (T 0 2)) ∧ CI I' J' (cap' 0) T 0 T (layM T) (stopR T + 1) ∧ EqX [0, 17, 18, 19, 20, 21, 22, 23, 24, 25, 27, 28, 29, 30, 31, 32, 33, 38, 39, 40, 41, 42, 43, 44, 46, 47, 48, 49] I I' ∧ EqJ [34, 35, 36, 37, 45] J J') (Aft D (Wt y) (Wd y ad cap I J) sz) (va_A (Wd y ad cap I J) sz)) (capAt (cap 0) (layM T).length - cap 0) (50 * (capAt (cap 0) (layM T).length - cap 0)) (va_A (Wd y ad cap I J) sz) := by
  refine Met.ofW (cc := cX8_lay) (maxL := 1) (ret := (some .int)) (by decide) rfl ?_
  intro p e s m args below meth c s₁ B hml hv
  obtain ⟨rfl, rfl, hP, hD0, hO⟩ := hv
  have hx := B.exec
  have hb := B.bytes
  have hr := B.returns
  have hown : s.vm.findClass RX8 = some m.cls := findClass_of_methodNamed B.named
  have hlocks := B.notSynchronized
  have hK := hO.1
  have hts : ∀ w ∈ lw_E, w.before ([.ref (ad 0)] : List Value).toArray s = true := fun w h => hO.2 w h _
  clear B
  have hD := hD0.self (sz := s.heap.size)
  generalize hAe : va_A (Wd y ad cap I J) s.heap.size = A at hD ⊢
  have hA : ∀ q : Nat, s.heap.size ≤ q → A q := fun q h => by rw [← hAe]; exact Or.inr h
  have hS : va_S A s.heap s.heap [] := va_S.rf
  have hl := lv_entry ([.ref (ad 0)]) (n := 1) (Nat.le_of_ble_eq_true rfl)
  rw [lg_entry_eq]
  generalize (lg_sl ([.ref (ad 0)]) ++ List.replicate (1 - (lg_sl ([.ref (ad 0)])).length) Slot.unset).toArray = ls at hl ⊢
  have hl : lv_has ls 1 [(0, .ref (ad 0))] := hl
  have hW0 := hW
  obtain ⟨⟨w1, w2, w3, w4, w5, w6, w7⟩, wS, wL, wB, wK, wTk, wT0⟩ := hW
  refine lv_aload_n hx hb dX8_lay_0 rfl (lv_at hl 0 rfl) ?_
  refine va_get (D := D) (T := TX8) (N := 5) hx hb hts jnX8 hown hK hP 0 (wd_0 y ad cap I J) rfl 1 (by decide) (hts _ fl_X8_19) (fun _ h9 => h9) rfl dX8_lay_1 ?_
  refine lv_aload_n hx hb dX8_lay_4 rfl (lv_at hl 0 rfl) ?_
  refine va_get (D := D) (T := TX8) (N := 5) hx hb hts jnX8 hown hK hP 0 (wd_0 y ad cap I J) rfl 0 (by decide) (hts _ fl_X8_12) (fun _ h9 => h9) rfl dX8_lay_5 ?_
  refine wk_v (Wf := Wt y) (run_vn (As := [.ref (ad 1)]) (rest := []) (b := (ad 17)) hx hb hml hown hO.2 (c_X4_layOut l D y ad cap I J s.heap.size hT1 hW0 hcp) k_X4_layOut mn_X8_108 ⟨rfl, rfl⟩ ⟨Nat.le_of_ble_eq_true rfl, Nat.le_of_ble_eq_true rfl⟩ (pre_VW hO hP hD (wd_17 y ad cap I J) rfl) rfl hl.1 rfl (Nat.le_of_ble_eq_true rfl) dX8_lay_8 ⟨(by show 0 + (capAt (cap 0) (layM T).length - cap 0) ≤ capAt (cap 0) (layM T).length - cap 0; omega), (by show 0 + 50 * (capAt (cap 0) (layM T).length - cap 0) ≤ 50 * (capAt (cap 0) (layM T).length - cap 0); omega)⟩) hD hS hA (fun u8 H locs hp8 hP hD hS => ?_)
  try dsimp only at hp8
  obtain ⟨cap8, I8, J8, rfl, hc8, hT8, hQ8, ⟨h85, h86, h87, h88⟩, hE8, hEJ8⟩ := hp8
  have hP : va_P D vwCl (Wd y ad cap8 I8 J8) H := hP
  have hD : va_D A (Wd y ad cap8 I8 J8) := hD
  refine lv_aload_n hx hb dX8_lay_11 rfl (lv_at hl 0 rfl) ?_
  refine lv_iconst (v := 0) hx hb dX8_lay_12 (by decide) ?_
  refine va_put (D := D) (T := TX8) (N := 5) (v := .int 0) (ty := .boolean) hx hb hts jnX8 tyX8 tyX8_ok nmX8 hown hK hP hD hS 0 (wd_0 y ad cap8 I8 J8) rfl 4 (by decide) (hts _ fl_X8_34) (fun _ h9 => h9) rfl (by decide +kernel) rfl rfl (Nat.le_of_ble_eq_true rfl) dX8_lay_13 (fun H locs hP hD hS => ?_)
  rw [wp_0_4] at hP hD
  generalize eI13 : va_up I8 0 (upd (I8 0) 4 0) = I13 at hP hD
  refine lv_aload_n hx hb dX8_lay_16 rfl (lv_at hl 0 rfl) ?_
  refine va_get (D := D) (T := TX8) (N := 5) hx hb hts jnX8 hown hK hP 0 (wd_0 y ad cap8 I13 J8) rfl 1 (by decide) (hts _ fl_X8_19) (fun _ h9 => h9) rfl dX8_lay_17 ?_
  refine va_getN (D := D) (T := TX4) (N := 9) hx hb hts jnX4 hown hK hP 17 (wd_17 y ad cap8 I13 J8) rfl 8 (by decide) (hts _ fn_X8_112) (fun _ h9 => h9) rfl dX8_lay_20 ?_
  refine lv_topi (fun v20 ev20 => ?_)
  obtain rfl : v20 = (nI (wc T (layM T) 2 (T 0 2))) := by
    rw [ev20, ← eI13]; simpa [va_up] using h88
  refine W.widen (k := capAt (cap 0) (layM T).length - cap 0) (n := 50 * (capAt (cap 0) (layM T).length - cap 0)) (by omega) (by omega) ?_
  refine W.iret (v := (nI (wc T (layM T) 2 (T 0 2)))) hx hb hr (fun t ht hW => ⟨⟨_, (ad, cap8, I13, J8), rfl, ?_, by rw [ht]; exact hP, by show va_D (va_A (Wd y ad cap I J) s.heap.size) _; rw [hAe]; exact hD⟩, hS.F ht⟩) hS.2.2 dX8_lay_23
  have e13 : ∀ j, j ≠ 0 → I13 j = I8 j := fun j hj => by rw [← eI13]; simp only [va_up, if_neg hj]
  refine ⟨cap8, I13, J8, rfl, hc8, rfl, ?_, ?_, hEJ8⟩
  · refine ⟨RT1_eqx hT1 (fun j h1 h2 => by rw [e13 j (by omega), hE8 j (by simp; omega)]), hW0, ⟨by rw [← eI13]; simp [va_up, upd]; rfl, by omega⟩, RT18_eqx hT8 (fun j h1 h2 => e13 j (by omega)), hW0, LQ_eq hQ8 (fun j h1 h2 => e13 j (by omega)) (fun _ _ _ => rfl), ?_⟩
    rw [e13 17 (by decide)]
    exact ⟨h85, h86, h87, h88⟩
  · exact EqX.tr2 hE8 (show EqX [0] I8 I13 from fun j hj => e13 j (by simpa using hj)) (by decide) (by decide)
set_option maxHeartbeats 4000000 in
set_option maxRecDepth 100000 in
theorem c_X8_far (l : Launch) (D : va_G) (y : Nat → ClassId) (ad : Nat → Nat) (cap : Nat → Nat) (I : Nat → Nat → Int32) (J : Nat → Nat → Int64) (sz : Nat) {T : Nat → Nat → Nat} (hT : RT1 I T) (hW : WF T) (h54 : ∀ s, s < 40 → I 54 s = 0) : Met l yX8_far [.code yX8_far cX8_far 8 (some .int)] ({ frames := 3, cells := 0, slots := 0, locals := 70 }) (va_Pc [.ref (ad 0)] (PW D y (Wd y ad cap I J) sz)) (va_Qi (fun (r : Int32) (u : St4) => r = nI (farC T (T 0 2)) ∧ ∃ J', u = (ad, cap, I, J') ∧ EqJ [50, 51, 52, 53] J J') (Aft D (Wt y) (Wd y ad cap I J) sz) (va_A (Wd y ad cap I J) sz)) 0 0 (va_A (Wd y ad cap I J) sz) := by
  refine Met.ofW (cc := cX8_far) (maxL := 8) (ret := (some .int)) (by decide) rfl ?_
  intro p e s m args below meth c s₁ B hml hv
  obtain ⟨rfl, rfl, hP, hD0, hO⟩ := hv
  have hx := B.exec
  have hb := B.bytes
  have hr := B.returns
  have hown : s.vm.findClass RX8 = some m.cls := findClass_of_methodNamed B.named
  have hlocks := B.notSynchronized
  have hK := hO.1
  have hts : ∀ w ∈ lw_E, w.before ([.ref (ad 0)] : List Value).toArray s = true := fun w h => hO.2 w h _
  clear B
  have hD := hD0.self (sz := s.heap.size)
  generalize hAe : va_A (Wd y ad cap I J) s.heap.size = A at hD ⊢
  have hA : ∀ q : Nat, s.heap.size ≤ q → A q := fun q h => by rw [← hAe]; exact Or.inr h
  have hS : va_S A s.heap s.heap [] := va_S.rf
  have hl := lv_entry ([.ref (ad 0)]) (n := 8) (Nat.le_of_ble_eq_true rfl)
  rw [lg_entry_eq]
  generalize (lg_sl ([.ref (ad 0)]) ++ List.replicate (8 - (lg_sl ([.ref (ad 0)])).length) Slot.unset).toArray = ls at hl ⊢
  have hl : lv_has ls 8 [(0, .ref (ad 0))] := hl
  have hW0 := hW
  obtain ⟨⟨w1, w2, w3, w4, w5, w6, w7⟩, wS, wL, wB, wK, wTk, wT0⟩ := hW
  refine lv_aload_n hx hb dX8_far_0 rfl (lv_at hl 0 rfl) ?_
  refine va_get (D := D) (T := TX8) (N := 5) hx hb hts jnX8 hown hK hP 0 (wd_0 y ad cap I J) rfl 2 (by decide) (hts _ fl_X8_26) (fun _ h9 => h9) rfl dX8_far_1 ?_
  refine lv_aload_n hx hb dX8_far_4 rfl (lv_at hl 0 rfl) ?_
  refine va_get (D := D) (T := TX8) (N := 5) hx hb hts jnX8 hown hK hP 0 (wd_0 y ad cap I J) rfl 0 (by decide) (hts _ fl_X8_12) (fun _ h9 => h9) rfl dX8_far_5 ?_
  refine lv_aload_n hx hb dX8_far_8 rfl (lv_at hl 0 rfl) ?_
  refine va_get (D := D) (T := TX8) (N := 5) hx hb hts jnX8 hown hK hP 0 (wd_0 y ad cap I J) rfl 3 (by decide) (hts _ fl_X8_30) (fun _ h9 => h9) rfl dX8_far_9 ?_
  refine wk_v (Wf := Wt y) (run_vn (As := [.ref (ad 1), .ref (ad 54)]) (rest := []) (b := (ad 50)) hx hb hml hown hO.2 (c_find50 l D y ad cap I J s.heap.size (n := fun _ => 0) hT hW0 (fun _ => by omega) (fun s hs => h54 s (by omega))) k_X0_find mn_X8_213 ⟨rfl, rfl⟩ ⟨Nat.le_of_ble_eq_true rfl, Nat.le_of_ble_eq_true rfl⟩ (pre_VW hO hP hD (wd_50 y ad cap I J) rfl) rfl hl.1 rfl (Nat.le_of_ble_eq_true rfl) dX8_far_12 ⟨(Nat.zero_le _), (Nat.zero_le _)⟩) hD hS hA (fun u12 H locs hp12 hP hD hS => ?_)
  try dsimp only at hp12
  obtain ⟨J12, rfl, hA12, hend12, hEJ12⟩ := hp12
  have hP : va_P D vwCl (Wd y ad cap I J12) H := hP
  have hD : va_D A (Wd y ad cap I J12) := hD
  refine lv_iconst (v := 0) hx hb dX8_far_15 (by decide) ?_
  rw [show (0 : Int32) = (nI (farC T 0)) from rfl]
  refine lv_istore_n (lv' := [(1, .int (nI (farC T 0))), (0, .ref (ad 0))]) hx hb dX8_far_16 rfl hl (by decide) rfl (fun ls hl => ?_)
  refine lv_iconst (v := 0) hx hb dX8_far_17 (by decide) ?_
  rw [show (0 : Int32) = (nI 0) from rfl]
  refine lv_istore_n (lv' := [(2, .int (nI 0)), (1, .int (nI (farC T 0))), (0, .ref (ad 0))]) hx hb dX8_far_18 rfl hl (by decide) rfl (fun ls hl => ?_)
  have loop19 : ∀ (n19 : Nat) (k : Nat) , (k ≤ T 0 2) → T 0 2 + 1 ≤ k + n19 → ∀ (H : Heap) (locs : List Loc), va_P D vwCl (Wd y ad cap I J12) H → va_D A (Wd y ad cap I J12) → va_S A s.heap H locs → ∀ ls : Array Slot, lv_has ls 8 [(0, .ref (ad 0)), (1, .int (nI (farC T k))), (2, .int (nI k))] → W p l e (headSpec [.code yX8_far cX8_far 8 (some .int)] ({ frames := 3, cells := 0, slots := 0, locals := 70 })).room s m ([.ref (ad 0)] : List Value).toArray below meth c H locs 0 0 (MQ below (va_Qi (fun (r : Int32) (u : St4) => r = nI (farC T (T 0 2)) ∧ ∃ J', u = (ad, cap, I, J') ∧ EqJ [50, 51, 52, 53] J J') (Aft D (Wt y) (Wd y ad cap I J) s.heap.size) A) ([.ref (ad 0)] : List Value).toArray s 0 0 A) (F0 m 19 ls []) := by
    intro n19
    induction n19 with
    | zero =>
      intro k hk hmeas
      exact absurd hmeas (by omega)
    | succ n19 ih19 =>
      intro k hk hmeas H locs hP hD hS ls hl
      refine lv_iload_n hx hb dX8_far_19 rfl (lv_at hl 2 rfl) ?_
      refine lv_aload_n hx hb dX8_far_20 rfl (lv_at hl 0 rfl) ?_
      refine va_get (D := D) (T := TX8) (N := 5) hx hb hts jnX8 hown hK hP 0 (wd_0 y ad cap I J12) rfl 0 (by decide) (hts _ fl_X8_12) (fun _ h9 => h9) rfl dX8_far_21 ?_
      refine va_getN (D := D) (T := TX7) (N := 8) hx hb hts jnX7 hown hK hP 1 (wd_1 y ad cap I J12) rfl 3 (by decide) (hts _ fn_X8_84) (fun _ h9 => h9) rfl dX8_far_24 ?_
      refine va_getN (D := D) (T := TX1) (N := 5) hx hb hts jnX1 hown hK hP 12 (wd_12 y ad cap I J12) rfl 0 (by decide) (hts _ fn_X8_147) (fun _ h9 => h9) rfl dX8_far_27 ?_
      refine lv_topi (fun v27 ev27 => ?_)
      obtain rfl : v27 = (nI (T 0 2)) := by
        rw [ev27]; exact hT.1.2.2.1
      refine lv_icmp_ge (tgt := 157) hx hb dX8_far_30 (by decide) (fun c30 => ?_) (fun c30 => ?_)
      · skip
        have c30 := (nI_leI (a := (T 0 2)) (b := k) (by omega) (by omega)).mp c30
        refine lv_iload_n hx hb dX8_far_157 rfl (lv_at hl 1 rfl) ?_
        refine W.iret (v := (nI (farC T k))) hx hb hr (fun t ht hW => ⟨⟨_, (ad, cap, I, J12), rfl, ?_, by rw [ht]; exact hP, by show va_D (va_A (Wd y ad cap I J) s.heap.size) _; rw [hAe]; exact hD⟩, hS.F ht⟩) hS.2.2 dX8_far_158
        have hk9 : k = T 0 2 := by omega
        rw [hk9]
        exact ⟨rfl, J12, rfl, hEJ12⟩
      · skip
        have c30 := mt (nI_leI (a := (T 0 2)) (b := k) (by omega) (by omega)).mpr c30
        obtain ⟨x1, x2, x6, x7, x8⟩ := wB k (by omega)
        obtain ⟨x3, x4, x5⟩ := wS _ x1
        obtain ⟨z1, z2⟩ := wL _ x8
        obtain ⟨z3, z4, z5⟩ := wS _ z1
        have hfl := farC_le T k
        have ha := braA_le (n := fun _ => 0) hW0 (fun _ => by omega) (b := k) (by omega)
        have hb9 := labA_le (n := fun _ => 0) hW0 (fun _ => by omega) x8
        refine lv_aload_n hx hb dX8_far_33 rfl (lv_at hl 0 rfl) ?_
        refine va_get (D := D) (T := TX8) (N := 5) hx hb hts jnX8 hown hK hP 0 (wd_0 y ad cap I J12) rfl 2 (by decide) (hts _ fl_X8_26) (fun _ h9 => h9) rfl dX8_far_34 ?_
        refine va_getN (D := D) (T := TX0) (N := 4) hx hb hts jnX0 hown hK hP 50 (wd_50 y ad cap I J12) rfl 0 (by decide) (hts _ fn_X8_155) (fun _ h9 => h9) rfl dX8_far_37 ?_
        refine lv_aload_n hx hb dX8_far_40 rfl (lv_at hl 0 rfl) ?_
        refine va_get (D := D) (T := TX8) (N := 5) hx hb hts jnX8 hown hK hP 0 (wd_0 y ad cap I J12) rfl 0 (by decide) (hts _ fl_X8_12) (fun _ h9 => h9) rfl dX8_far_41 ?_
        refine va_getN (D := D) (T := TX7) (N := 8) hx hb hts jnX7 hown hK hP 1 (wd_1 y ad cap I J12) rfl 3 (by decide) (hts _ fn_X8_84) (fun _ h9 => h9) rfl dX8_far_44 ?_
        refine va_getN (D := D) (T := TX1) (N := 5) hx hb hts jnX1 hown hK hP 12 (wd_12 y ad cap I J12) rfl 1 (by decide) (hts _ fn_X8_217) (fun _ h9 => h9) rfl dX8_far_47 ?_
        refine lv_iload_n hx hb dX8_far_50 rfl (lv_at hl 2 rfl) ?_
        refine va_iald (D := D) hx hb hK hP 13 0 (wd_13 y ad cap I J12) rfl (vp_in_nI (by omega) (by omega)) dX8_far_51 ?_
        rw [nI_clamp (n := k) (by omega)]
        refine lv_topi (fun v51 ev51 => ?_)
        obtain rfl : v51 = (nI (T 6 k)) := by
          rw [ev51]; exact (hT.2.2.2.1 _ (by omega)).1
        refine va_lald (D := D) hx hb hK hP 51 1 (wd_51 y ad cap I J12) rfl (vp_in_nI (by omega) (by omega)) dX8_far_52 ?_
        rw [nI_clamp (n := T 6 k) (by omega)]
        refine lv_topl (fun v52 ev52 => ?_)
        obtain rfl : v52 = (lN (sA T (fun _ => 0) (T 6 k))) := by
          rw [ev52]; exact (hA12 _ (by omega)).1
        refine lv_aload_n hx hb dX8_far_53 rfl (lv_at hl 0 rfl) ?_
        refine va_get (D := D) (T := TX8) (N := 5) hx hb hts jnX8 hown hK hP 0 (wd_0 y ad cap I J12) rfl 0 (by decide) (hts _ fl_X8_12) (fun _ h9 => h9) rfl dX8_far_54 ?_
        refine va_getN (D := D) (T := TX7) (N := 8) hx hb hts jnX7 hown hK hP 1 (wd_1 y ad cap I J12) rfl 3 (by decide) (hts _ fn_X8_84) (fun _ h9 => h9) rfl dX8_far_57 ?_
        refine va_getN (D := D) (T := TX1) (N := 5) hx hb hts jnX1 hown hK hP 12 (wd_12 y ad cap I J12) rfl 2 (by decide) (hts _ fn_X8_219) (fun _ h9 => h9) rfl dX8_far_60 ?_
        refine lv_iload_n hx hb dX8_far_63 rfl (lv_at hl 2 rfl) ?_
        refine va_iald (D := D) hx hb hK hP 14 0 (wd_14 y ad cap I J12) rfl (vp_in_nI (by omega) (by omega)) dX8_far_64 ?_
        rw [nI_clamp (n := k) (by omega)]
        refine lv_topi (fun v64 ev64 => ?_)
        obtain rfl : v64 = (nI (T 7 k)) := by
          rw [ev64]; exact (hT.2.2.2.1 _ (by omega)).2.1
        refine lv_i2l (v := lN (T 7 k)) hx hb dX8_far_65 (nI_l (by omega)) ?_
        refine lv_ladd hx hb dX8_far_66 ?_
        refine lv_topl (fun v66 ev66 => ?_)
        obtain rfl : v66 = (lN (braA T (fun _ => 0) k)) := by
          rw [ev66, lN_add]; rfl
        refine lv_lstore_n (lv' := [(3, .long (lN (braA T (fun _ => 0) k))), (0, .ref (ad 0)), (1, .int (nI (farC T k))), (2, .int (nI k))]) hx hb dX8_far_67 rfl hl (by decide) rfl (fun ls hl => ?_)
        refine lv_aload_n hx hb dX8_far_68 rfl (lv_at hl 1 rfl) ?_
        refine va_get (D := D) (T := TX8) (N := 5) hx hb hts jnX8 hown hK hP 0 (wd_0 y ad cap I J12) rfl 0 (by decide) (hts _ fl_X8_12) (fun _ h9 => h9) rfl dX8_far_69 ?_
        refine va_getN (D := D) (T := TX7) (N := 8) hx hb hts jnX7 hown hK hP 1 (wd_1 y ad cap I J12) rfl 3 (by decide) (hts _ fn_X8_84) (fun _ h9 => h9) rfl dX8_far_72 ?_
        refine va_getN (D := D) (T := TX1) (N := 5) hx hb hts jnX1 hown hK hP 12 (wd_12 y ad cap I J12) rfl 4 (by decide) (hts _ fn_X8_105) (fun _ h9 => h9) rfl dX8_far_75 ?_
        refine lv_iload_n hx hb dX8_far_78 rfl (lv_at hl 3 rfl) ?_
        refine va_iald (D := D) hx hb hK hP 16 0 (wd_16 y ad cap I J12) rfl (vp_in_nI (by omega) (by omega)) dX8_far_79 ?_
        rw [nI_clamp (n := k) (by omega)]
        refine lv_topi (fun v79 ev79 => ?_)
        obtain rfl : v79 = (nI (T 9 k)) := by
          rw [ev79]; exact (hT.2.2.2.1 _ (by omega)).2.2.2
        refine lv_istore (lv' := [(5, .int (nI (T 9 k))), (3, .long (lN (braA T (fun _ => 0) k))), (0, .ref (ad 0)), (1, .int (nI (farC T k))), (2, .int (nI k))]) hx hb dX8_far_80 hl (by decide) rfl (fun ls hl => ?_)
        refine lv_aload_n hx hb dX8_far_82 rfl (lv_at hl 2 rfl) ?_
        refine va_get (D := D) (T := TX8) (N := 5) hx hb hts jnX8 hown hK hP 0 (wd_0 y ad cap I J12) rfl 2 (by decide) (hts _ fl_X8_26) (fun _ h9 => h9) rfl dX8_far_83 ?_
        refine va_getN (D := D) (T := TX0) (N := 4) hx hb hts jnX0 hown hK hP 50 (wd_50 y ad cap I J12) rfl 0 (by decide) (hts _ fn_X8_155) (fun _ h9 => h9) rfl dX8_far_86 ?_
        refine lv_aload_n hx hb dX8_far_89 rfl (lv_at hl 2 rfl) ?_
        refine va_get (D := D) (T := TX8) (N := 5) hx hb hts jnX8 hown hK hP 0 (wd_0 y ad cap I J12) rfl 0 (by decide) (hts _ fl_X8_12) (fun _ h9 => h9) rfl dX8_far_90 ?_
        refine va_getN (D := D) (T := TX7) (N := 8) hx hb hts jnX7 hown hK hP 1 (wd_1 y ad cap I J12) rfl 1 (by decide) (hts _ fn_X8_59) (fun _ h9 => h9) rfl dX8_far_93 ?_
        refine va_getN (D := D) (T := TX3) (N := 3) hx hb hts jnX3 hown hK hP 6 (wd_6 y ad cap I J12) rfl 1 (by decide) (hts _ fn_X8_222) (fun _ h9 => h9) rfl dX8_far_96 ?_
        refine lv_iload hx hb dX8_far_99 (lv_at hl 0 rfl) ?_
        refine va_iald (D := D) hx hb hK hP 7 0 (wd_7 y ad cap I J12) rfl (vp_in_nI (by omega) (by omega)) dX8_far_101 ?_
        rw [nI_clamp (n := T 9 k) (by omega)]
        refine lv_topi (fun v101 ev101 => ?_)
        obtain rfl : v101 = (nI (T 4 (T 9 k))) := by
          rw [ev101]; exact (hT.2.2.1 _ (by omega)).1
        refine va_lald (D := D) hx hb hK hP 51 1 (wd_51 y ad cap I J12) rfl (vp_in_nI (by omega) (by omega)) dX8_far_102 ?_
        rw [nI_clamp (n := T 4 (T 9 k)) (by omega)]
        refine lv_topl (fun v102 ev102 => ?_)
        obtain rfl : v102 = (lN (sA T (fun _ => 0) (T 4 (T 9 k)))) := by
          rw [ev102]; exact (hA12 _ (by omega)).1
        refine lv_aload_n hx hb dX8_far_103 rfl (lv_at hl 2 rfl) ?_
        refine va_get (D := D) (T := TX8) (N := 5) hx hb hts jnX8 hown hK hP 0 (wd_0 y ad cap I J12) rfl 0 (by decide) (hts _ fl_X8_12) (fun _ h9 => h9) rfl dX8_far_104 ?_
        refine va_getN (D := D) (T := TX7) (N := 8) hx hb hts jnX7 hown hK hP 1 (wd_1 y ad cap I J12) rfl 1 (by decide) (hts _ fn_X8_59) (fun _ h9 => h9) rfl dX8_far_107 ?_
        refine va_getN (D := D) (T := TX3) (N := 3) hx hb hts jnX3 hown hK hP 6 (wd_6 y ad cap I J12) rfl 2 (by decide) (hts _ fn_X8_223) (fun _ h9 => h9) rfl dX8_far_110 ?_
        refine lv_iload hx hb dX8_far_113 (lv_at hl 0 rfl) ?_
        refine va_iald (D := D) hx hb hK hP 8 0 (wd_8 y ad cap I J12) rfl (vp_in_nI (by omega) (by omega)) dX8_far_115 ?_
        rw [nI_clamp (n := T 9 k) (by omega)]
        refine lv_topi (fun v115 ev115 => ?_)
        obtain rfl : v115 = (nI (T 5 (T 9 k))) := by
          rw [ev115]; exact (hT.2.2.1 _ (by omega)).2
        refine lv_i2l (v := lN (T 5 (T 9 k))) hx hb dX8_far_116 (nI_l (by omega)) ?_
        refine lv_ladd hx hb dX8_far_117 ?_
        refine lv_topl (fun v117 ev117 => ?_)
        obtain rfl : v117 = (lN (labA T (fun _ => 0) (T 9 k))) := by
          rw [ev117, lN_add]; rfl
        refine lv_lstore (lv' := [(6, .long (lN (labA T (fun _ => 0) (T 9 k)))), (5, .int (nI (T 9 k))), (3, .long (lN (braA T (fun _ => 0) k))), (0, .ref (ad 0)), (1, .int (nI (farC T k))), (2, .int (nI k))]) hx hb dX8_far_118 hl (by decide) rfl (fun ls hl => ?_)
        refine lv_aload_n hx hb dX8_far_120 rfl (lv_at hl 3 rfl) ?_
        refine va_get (D := D) (T := TX8) (N := 5) hx hb hts jnX8 hown hK hP 0 (wd_0 y ad cap I J12) rfl 0 (by decide) (hts _ fl_X8_12) (fun _ h9 => h9) rfl dX8_far_121 ?_
        refine va_getN (D := D) (T := TX7) (N := 8) hx hb hts jnX7 hown hK hP 1 (wd_1 y ad cap I J12) rfl 2 (by decide) (hts _ fn_X8_68) (fun _ h9 => h9) rfl dX8_far_124 ?_
        refine lv_aload_n hx hb dX8_far_127 rfl (lv_at hl 3 rfl) ?_
        refine va_get (D := D) (T := TX8) (N := 5) hx hb hts jnX8 hown hK hP 0 (wd_0 y ad cap I J12) rfl 0 (by decide) (hts _ fl_X8_12) (fun _ h9 => h9) rfl dX8_far_128 ?_
        refine va_getN (D := D) (T := TX7) (N := 8) hx hb hts jnX7 hown hK hP 1 (wd_1 y ad cap I J12) rfl 3 (by decide) (hts _ fn_X8_84) (fun _ h9 => h9) rfl dX8_far_131 ?_
        refine va_getN (D := D) (T := TX1) (N := 5) hx hb hts jnX1 hown hK hP 12 (wd_12 y ad cap I J12) rfl 3 (by decide) (hts _ fn_X8_224) (fun _ h9 => h9) rfl dX8_far_134 ?_
        refine lv_iload_n hx hb dX8_far_137 rfl (lv_at hl 5 rfl) ?_
        refine va_iald (D := D) hx hb hK hP 15 0 (wd_15 y ad cap I J12) rfl (vp_in_nI (by omega) (by omega)) dX8_far_138 ?_
        rw [nI_clamp (n := k) (by omega)]
        refine lv_topi (fun v138 ev138 => ?_)
        obtain rfl : v138 = (nI (T 8 k)) := by
          rw [ev138]; exact (hT.2.2.2.1 _ (by omega)).2.2.1
        refine lv_lload_n hx hb dX8_far_139 rfl (lv_at hl 2 rfl) ?_
        refine lv_lload hx hb dX8_far_140 (lv_at hl 0 rfl) ?_
        refine rk_i (run_vn (As := [.int (nI (T 8 k)), .long (lN (braA T (fun _ => 0) k)), .long (lN (labA T (fun _ => 0) (T 9 k)))]) (rest := []) (b := (ad 9)) hx hb hml hown hO.2 (c_X2_reaches l D y (wd_9 y ad cap I J12) (wd_10 y ad cap I J12) (wd_11 y ad cap I J12) (k0 := T 8 k) x6 (hT.2.2.2.2 _ x6).1 (hT.2.2.2.2 _ x6).2 (wK _ x6).1 x7 (wK _ x6).2 (by omega) (by omega)) k_X2_reaches mn_X8_227 ⟨rfl, rfl⟩ ⟨Nat.le_of_ble_eq_true rfl, Nat.le_of_ble_eq_true rfl⟩ (pre_VR hO hP (wd_9 y ad cap I J12) rfl) rfl hl.1 rfl (Nat.le_of_ble_eq_true rfl) dX8_far_142 ⟨(Nat.zero_le _), (Nat.zero_le _)⟩) (fun r142 er142 => ?_)
        try dsimp only at er142
        refine lv_if_ne (tgt := 151) hx hb dX8_far_145 (by decide) (fun c145 => ?_) (fun c145 => ?_)
        · skip
          have c145 := if01_n er142 c145
          have eN : farC T (k + 1) = farC T k := by simp only [farC]; rw [if_pos (show dirB T (fun _ => 0) k = true from c145)]; rfl
          refine lv_iinc (v := (nI (k + 1))) (lv' := [(2, .int (nI (k + 1))), (6, .long (lN (labA T (fun _ => 0) (T 9 k)))), (5, .int (nI (T 9 k))), (3, .long (lN (braA T (fun _ => 0) k))), (0, .ref (ad 0)), (1, .int (nI (farC T k)))]) hx hb dX8_far_151 hl (k := 5) rfl (nI_1 _) (by decide) rfl (fun ls hl => ?_)
          refine lv_goto (tgt := 19) hx hb dX8_far_154 (by decide) ?_
          exact ih19 (k + 1) (by omega) (by omega) _ _ hP hD hS ls (by rw [show farC T (k + 1) = farC T k from eN]; exact lv_sub hl [4, 5, 0] rfl)
        · skip
          have c145 := if01_z er142 c145
          have eN : farC T (k + 1) = farC T k + 1 := by simp only [farC]; rw [if_neg (show ¬ dirB T (fun _ => 0) k = true from c145)]
          refine lv_iinc (v := (nI ((farC T k) + 1))) (lv' := [(1, .int (nI ((farC T k) + 1))), (6, .long (lN (labA T (fun _ => 0) (T 9 k)))), (5, .int (nI (T 9 k))), (3, .long (lN (braA T (fun _ => 0) k))), (0, .ref (ad 0)), (2, .int (nI k))]) hx hb dX8_far_148 hl (k := 4) rfl (nI_1 _) (by decide) rfl (fun ls hl => ?_)
          refine lv_iinc (v := (nI (k + 1))) (lv' := [(2, .int (nI (k + 1))), (1, .int (nI ((farC T k) + 1))), (6, .long (lN (labA T (fun _ => 0) (T 9 k)))), (5, .int (nI (T 9 k))), (3, .long (lN (braA T (fun _ => 0) k))), (0, .ref (ad 0))]) hx hb dX8_far_151 hl (k := 5) rfl (nI_1 _) (by decide) rfl (fun ls hl => ?_)
          refine lv_goto (tgt := 19) hx hb dX8_far_154 (by decide) ?_
          exact ih19 (k + 1) (by omega) (by omega) _ _ hP hD hS ls (by rw [show farC T (k + 1) = (farC T k) + 1 from eN]; exact lv_sub hl [5, 1, 0] rfl)
  exact loop19 (T 0 2 + 1) 0 (by omega) (by omega) _ _ hP hD hS ls (by exact lv_sub hl [2, 1, 0] rfl)
