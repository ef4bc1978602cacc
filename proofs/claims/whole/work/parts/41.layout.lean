set_option maxHeartbeats 4000000 in
set_option maxRecDepth 100000 in
theorem c_X4_layOut (l : Launch) (D : va_G) (y : Nat → ClassId) (ad : Nat → Nat) (cap : Nat → Nat) (I : Nat → Nat → Int32) (J : Nat → Nat → Int64) (sz : Nat) {T : Nat → Nat → Nat} (hT1 : RT1 I T) (hW : WF T) (hcp : isCap (cap 0)) : Met l yX4_layOut [.code yX4_layOut cX4_layOut 3 none] ({ frames := 6, cells := (capAt (cap 0) (layM T).length - cap 0), slots := (50 * (capAt (cap 0) (layM T).length - cap 0)), locals := 161 }) (va_Pc [.ref (ad 17), .ref (ad 1)] (PW D y (Wd y ad cap I J) sz)) (va_Qv (fun u : St4 => ∃ cap' I' J', u = (ad, cap', I', J') ∧ cap' 0 = capAt (cap 0) (layM T).length ∧ RT18 I' T ∧ LQ I' J' T (cap' 0) (layM T) ∧ (I' 17 5 = nI (stopR T + 1) ∧ I' 17 6 = nI (wc T (layM T) 0 (T 0 2)) ∧ I' 17 7 = nI (wc T (layM T) 1 (T 0 2)) ∧ I' 17 8 = nI (wc T (layM T) 2 (T 0 2))) ∧ EqX [17, 18, 19, 20, 21, 22, 23, 24, 25, 27, 28, 29, 30, 31, 32, 33, 38, 39, 40, 41, 42, 43, 44, 46, 47, 48, 49] I I' ∧ EqJ [34, 35, 36, 37, 45] J J') (Aft D (Wt y) (Wd y ad cap I J) sz) (va_A (Wd y ad cap I J) sz)) (capAt (cap 0) (layM T).length - cap 0) (50 * (capAt (cap 0) (layM T).length - cap 0)) (va_A (Wd y ad cap I J) sz) := by
  refine Met.ofW (cc := cX4_layOut) (maxL := 3) (ret := none) (by decide) rfl ?_
  intro p e s m args below meth c s₁ B hml hv
  obtain ⟨rfl, rfl, hP, hD0, hO⟩ := hv
  have hx := B.exec
  have hb := B.bytes
  have hr := B.returns
  have hown : s.vm.findClass RX4 = some m.cls := findClass_of_methodNamed B.named
  have hlocks := B.notSynchronized
  have hK := hO.1
  have hts : ∀ w ∈ lw_E, w.before ([.ref (ad 17), .ref (ad 1)] : List Value).toArray s = true := fun w h => hO.2 w h _
  clear B
  have hD := hD0.self (sz := s.heap.size)
  generalize hAe : va_A (Wd y ad cap I J) s.heap.size = A at hD ⊢
  have hA : ∀ q : Nat, s.heap.size ≤ q → A q := fun q h => by rw [← hAe]; exact Or.inr h
  have hS : va_S A s.heap s.heap [] := va_S.rf
  have hl := lv_entry ([.ref (ad 17), .ref (ad 1)]) (n := 3) (Nat.le_of_ble_eq_true rfl)
  rw [lg_entry_eq]
  generalize (lg_sl ([.ref (ad 17), .ref (ad 1)]) ++ List.replicate (3 - (lg_sl ([.ref (ad 17), .ref (ad 1)])).length) Slot.unset).toArray = ls at hl ⊢
  have hl : lv_has ls 3 [(0, .ref (ad 17)), (1, .ref (ad 1))] := hl
  have hW0 := hW
  obtain ⟨⟨w1, w2, w3, w4, w5, w6, w7⟩, wS, wL, wB, wK, wTk, wT0⟩ := hW
  have hlenM : (layM T).length ≤ 2400 := TW_len hW0 (lays_TW hW0 _ (by have := stop_le hW0; omega))
  refine lv_aload_n hx hb dX4_layOut_0 rfl (lv_at hl 0 rfl) ?_
  refine va_get (D := D) (T := TX4) (N := 9) hx hb hts jnX4 hown hK hP 17 (wd_17 y ad cap I J) rfl 0 (by decide) (hts _ fl_X4_12) (fun _ h9 => h9) rfl dX4_layOut_1 ?_
  refine lv_aload_n hx hb dX4_layOut_4 rfl (lv_at hl 1 rfl) ?_
  refine wk_v (Wf := Wt y) (run_vn (As := [.ref (ad 1)]) (rest := []) (b := (ad 18)) hx hb hml hown hO.2 (c_X7_copyFrom l D y ad cap I J s.heap.size hT1 hW0) k_X7_copyFrom mn_X4_52 ⟨rfl, rfl⟩ ⟨Nat.le_of_ble_eq_true rfl, Nat.le_of_ble_eq_true rfl⟩ (pre_VW hO hP hD (wd_18 y ad cap I J) rfl) rfl hl.1 rfl (Nat.le_of_ble_eq_true rfl) dX4_layOut_5 ⟨(Nat.zero_le _), (Nat.zero_le _)⟩) hD hS hA (fun u5 H locs hp5 hP hD hS => ?_)
  try dsimp only at hp5
  obtain ⟨I5, rfl, hE5, hT5⟩ := hp5
  have hP : va_P D vwCl (Wd y ad cap I5 J) H := hP
  have hD : va_D A (Wd y ad cap I5 J) := hD
  refine lv_aload_n hx hb dX4_layOut_8 rfl (lv_at hl 0 rfl) ?_
  refine va_get (D := D) (T := TX4) (N := 9) hx hb hts jnX4 hown hK hP 17 (wd_17 y ad cap I5 J) rfl 2 (by decide) (hts _ fl_X4_28) (fun _ h9 => h9) rfl dX4_layOut_9 ?_
  refine wk_v (Wf := Wt y) (run_vn (As := []) (rest := []) (b := (ad 38)) hx hb hml hown hO.2 (c_X6_clear l D y ad cap I5 J H.size) k_X6_clear mn_X4_56 ⟨rfl, rfl⟩ ⟨Nat.le_of_ble_eq_true rfl, Nat.le_of_ble_eq_true rfl⟩ (pre_VW hO hP hD (wd_38 y ad cap I5 J) rfl) rfl hl.1 rfl (Nat.le_of_ble_eq_true rfl) dX4_layOut_12 ⟨(Nat.zero_le _), (Nat.zero_le _)⟩) hD hS hA (fun u12 H locs hp12 hP hD hS => ?_)
  try dsimp only at hp12
  obtain ⟨I12, rfl, hE12, h38a, h38b, h46, h47⟩ := hp12
  have hP : va_P D vwCl (Wd y ad cap I12 J) H := hP
  have hD : va_D A (Wd y ad cap I12 J) := hD
  refine lv_iconst (v := 1) hx hb dX4_layOut_15 (by decide) ?_
  refine lv_istore_n (lv' := [(2, .int 1), (0, .ref (ad 17)), (1, .ref (ad 1))]) hx hb dX4_layOut_16 rfl hl (by decide) rfl (fun ls hl => ?_)
  have loop17 : ∀ (n17 : Nat) (r : Nat) (cap9 : Nat → Nat) (I9 : Nat → Nat → Int32) (J9 : Nat → Nat → Int64) , (r ≤ 2400) → (∀ q, q < r → ¬ rndF T (lays T q) (q + 1) = []) → (cap9 0 = capAt (cap 0) (lays T r).length) → (TH I9 J9 T (cap9 0) (lays T r) []) → (RT18 I9 T) → (∀ t, t < (lays T r).length → I9 43 t = 0) → (EqX [17, 18, 19, 20, 21, 22, 23, 24, 25, 27, 28, 29, 30, 31, 32, 33, 38, 39, 40, 41, 42, 43, 44, 46, 47] I I9) → (EqJ [34, 35, 36, 37, 45] J J9) → 2402 ≤ r + n17 → ∀ (H : Heap) (locs : List Loc), va_P D vwCl (Wd y ad cap9 I9 J9) H → va_D A (Wd y ad cap9 I9 J9) → va_S A s.heap H locs → ∀ ls : Array Slot, lv_has ls 3 [(0, .ref (ad 17)), (1, .ref (ad 1)), (2, .int (nI (r + 1)))] → W p l e (headSpec [.code yX4_layOut cX4_layOut 3 none] ({ frames := 6, cells := (capAt (cap 0) (layM T).length - cap 0), slots := (50 * (capAt (cap 0) (layM T).length - cap 0)), locals := 161 })).room s m ([.ref (ad 17), .ref (ad 1)] : List Value).toArray below meth c H locs (capAt (cap 0) (lays T r).length - cap 0) (50 * (capAt (cap 0) (lays T r).length - cap 0)) (MQ below (va_Qv (fun u : St4 => ∃ cap' I' J', u = (ad, cap', I', J') ∧ cap' 0 = capAt (cap 0) (layM T).length ∧ RT18 I' T ∧ LQ I' J' T (cap' 0) (layM T) ∧ (I' 17 5 = nI (stopR T + 1) ∧ I' 17 6 = nI (wc T (layM T) 0 (T 0 2)) ∧ I' 17 7 = nI (wc T (layM T) 1 (T 0 2)) ∧ I' 17 8 = nI (wc T (layM T) 2 (T 0 2))) ∧ EqX [17, 18, 19, 20, 21, 22, 23, 24, 25, 27, 28, 29, 30, 31, 32, 33, 38, 39, 40, 41, 42, 43, 44, 46, 47, 48, 49] I I' ∧ EqJ [34, 35, 36, 37, 45] J J') (Aft D (Wt y) (Wd y ad cap I J) s.heap.size) A) ([.ref (ad 17), .ref (ad 1)] : List Value).toArray s (capAt (cap 0) (layM T).length - cap 0) (50 * (capAt (cap 0) (layM T).length - cap 0)) A) (F0 m 17 ls []) := by
    intro n17
    induction n17 with
    | zero =>
      intro r cap9 I9 J9 hr9 hq9 hc9 hTH9 hT9 hU9 hE9 hEJ9 hmeas
      exact absurd hmeas (by omega)
    | succ n17 ih17 =>
      intro r cap9 I9 J9 hr9 hq9 hc9 hTH9 hT9 hU9 hE9 hEJ9 hmeas H locs hP hD hS ls hl
      have hrs := stop_is hW0 hq9
      have hst24 := stop_le hW0
      have hr24 : r ≤ 2400 := by have := hrs.1; omega
      have hTWr := lays_TW hW0 r (by omega)
      have hlen9 := TW_len hW0 hTWr
      have hnM : ∀ s, cnt (lays T r) s ≤ 2400 := fun s => Nat.le_trans (cnt_le _ s) hlen9
      have hge0 := (capAt_ok hcp hlen9).2.2
      have hroom0 : capAt (cap 0) (lays T r).length ≤ capAt (cap 0) (layM T).length := capAt_mono hcp hlenM (lays_le hrs.1)
      have hroomC : capAt (cap 0) (lays T r).length - cap 0 ≤ capAt (cap 0) (layM T).length - cap 0 := by omega
      have hroomS : 50 * (capAt (cap 0) (lays T r).length - cap 0) ≤ 50 * (capAt (cap 0) (layM T).length - cap 0) := by omega
      refine lv_iload_n hx hb dX4_layOut_17 rfl (lv_at hl 2 rfl) ?_
      refine lv_sipush (v := 2401) hx hb dX4_layOut_18 (by decide) ?_
      refine lv_icmp_gt (tgt := 82) hx hb dX4_layOut_21 (by decide) (fun c21 => ?_) (fun c21 => ?_)
      · skip
        have c21 := (nI_ltI (a := 2401) (b := (r + 1)) (by omega) (by omega)).mp c21
        exact absurd c21 (by omega)
      · skip
        have c21 := mt (nI_ltI (a := 2401) (b := (r + 1)) (by omega) (by omega)).mpr c21
        refine lv_aload_n hx hb dX4_layOut_24 rfl (lv_at hl 0 rfl) ?_
        refine lv_iload_n hx hb dX4_layOut_25 rfl (lv_at hl 2 rfl) ?_
        refine va_put (D := D) (T := TX4) (N := 9) (v := .int (nI (r + 1))) (ty := .int) hx hb hts jnX4 tyX4 tyX4_ok nmX4 hown hK hP hD hS 17 (wd_17 y ad cap9 I9 J9) rfl 5 (by decide) (hts _ fl_X4_39) (fun _ h9 => h9) rfl (by decide +kernel) rfl rfl (Nat.le_of_ble_eq_true rfl) dX4_layOut_26 (fun H locs hP hD hS => ?_)
        rw [wp_17_5] at hP hD
        generalize eI26 : va_up I9 17 (upd (I9 17) 5 (nI (r + 1))) = I26 at hP hD
        have e26 : ∀ j, j ≠ 17 → I26 j = I9 j := fun j hj => by rw [← eI26]; simp only [va_up, if_neg hj]
        have hT26 : RT18 I26 T := RT18_eqx hT9 (fun j h1 h2 => e26 j (by omega))
        have hTH26 : ∀ J8 : Nat → Nat → Int64, TH I26 J8 T (cap9 0) (lays T r) [] := fun J8 => by
          unfold TH at hTH9 ⊢
          simp only [e26 38 (by decide), e26 39 (by decide), e26 40 (by decide), e26 41 (by decide), e26 42 (by decide), e26 44 (by decide), e26 46 (by decide), e26 47 (by decide)]
          exact hTH9
        refine lv_aload_n hx hb dX4_layOut_29 rfl (lv_at hl 0 rfl) ?_
        refine va_get (D := D) (T := TX4) (N := 9) hx hb hts jnX4 hown hK hP 17 (wd_17 y ad cap9 I26 J9) rfl 1 (by decide) (hts _ fl_X4_21) (fun _ h9 => h9) rfl dX4_layOut_30 ?_
        refine lv_aload_n hx hb dX4_layOut_33 rfl (lv_at hl 0 rfl) ?_
        refine va_get (D := D) (T := TX4) (N := 9) hx hb hts jnX4 hown hK hP 17 (wd_17 y ad cap9 I26 J9) rfl 0 (by decide) (hts _ fl_X4_12) (fun _ h9 => h9) rfl dX4_layOut_34 ?_
        refine lv_aload_n hx hb dX4_layOut_37 rfl (lv_at hl 0 rfl) ?_
        refine va_get (D := D) (T := TX4) (N := 9) hx hb hts jnX4 hown hK hP 17 (wd_17 y ad cap9 I26 J9) rfl 2 (by decide) (hts _ fl_X4_28) (fun _ h9 => h9) rfl dX4_layOut_38 ?_
        refine va_getN (D := D) (T := TX6) (N := 11) hx hb hts jnX6 hown hK hP 38 (wd_38 y ad cap9 I26 J9) rfl 9 (by decide) (hts _ fn_X4_59) (fun _ h9 => h9) rfl dX4_layOut_41 ?_
        refine wk_v (Wf := Wt y) (run_vn (As := [.ref (ad 18), .ref (ad 46)]) (rest := []) (b := (ad 34)) hx hb hml hown hO.2 (c_find34 l D y ad cap9 I26 J9 H.size (n := cnt (lays T r)) hT26 hW0 hnM (fun s hs => (hTH26 J9).2.2.2.1 s (by omega))) k_X0_find mn_X4_62 ⟨rfl, rfl⟩ ⟨Nat.le_of_ble_eq_true rfl, Nat.le_of_ble_eq_true rfl⟩ (pre_VW hO hP hD (wd_34 y ad cap9 I26 J9) rfl) rfl hl.1 rfl (Nat.le_of_ble_eq_true rfl) dX4_layOut_44 ⟨hroomC, hroomS⟩) hD hS hA (fun u44 H locs hp44 hP hD hS => ?_)
        try dsimp only at hp44
        obtain ⟨J44, rfl, hA44, hend44, hEJ44⟩ := hp44
        have hP : va_P D vwCl (Wd y ad cap9 I26 J44) H := hP
        have hD : va_D A (Wd y ad cap9 I26 J44) := hD
        refine lv_aload_n hx hb dX4_layOut_47 rfl (lv_at hl 0 rfl) ?_
        refine va_get (D := D) (T := TX4) (N := 9) hx hb hts jnX4 hown hK hP 17 (wd_17 y ad cap9 I26 J44) rfl 2 (by decide) (hts _ fl_X4_28) (fun _ h9 => h9) rfl dX4_layOut_48 ?_
        refine lv_aload_n hx hb dX4_layOut_51 rfl (lv_at hl 0 rfl) ?_
        refine va_get (D := D) (T := TX4) (N := 9) hx hb hts jnX4 hown hK hP 17 (wd_17 y ad cap9 I26 J44) rfl 1 (by decide) (hts _ fl_X4_21) (fun _ h9 => h9) rfl dX4_layOut_52 ?_
        refine lv_aload_n hx hb dX4_layOut_55 rfl (lv_at hl 0 rfl) ?_
        refine va_get (D := D) (T := TX4) (N := 9) hx hb hts jnX4 hown hK hP 17 (wd_17 y ad cap9 I26 J44) rfl 0 (by decide) (hts _ fl_X4_12) (fun _ h9 => h9) rfl dX4_layOut_56 ?_
        refine rk_l (run_vn (As := []) (rest := [.ref (ad 34), .ref (ad 38)]) (b := (ad 18)) hx hb hml hown hO.2 (c_X7_thunkStride l D y (n1 := T 0 5) (n2 := T 0 6) (hT26.1.2.2.2.2.2.1 ▸ hT26.1.2.2.2.2.2.2.1 ▸ wd_18 y ad cap9 I26 J44) w6 w7) k_X7_thunkStride mn_X4_66 ⟨rfl, rfl⟩ ⟨Nat.le_of_ble_eq_true rfl, Nat.le_of_ble_eq_true rfl⟩ (pre_VR hO hP (wd_18 y ad cap9 I26 J44) rfl) rfl hl.1 rfl (Nat.le_of_ble_eq_true rfl) dX4_layOut_59 ⟨hroomC, hroomS⟩) (fun r59 er59 => ?_)
        try dsimp only at er59
        obtain rfl : r59 = (lN (up (T 0 5) (T 0 6))) := by
          exact er59
        refine wk_v (Wf := Wt y) (run_vn (As := [.ref (ad 34), .long (lN (up (T 0 5) (T 0 6)))]) (rest := []) (b := (ad 38)) hx hb hml hown hO.2 (c_X6_findPlaces l D y ad cap9 I26 J44 H.size (hTH26 J44) (by rw [List.append_nil]; exact hTWr) w1 (fun s hs => (hA44 s hs).2.1)) k_X6_findPlaces mn_X4_70 ⟨rfl, rfl⟩ ⟨Nat.le_of_ble_eq_true rfl, Nat.le_of_ble_eq_true rfl⟩ (pre_VW hO hP hD (wd_38 y ad cap9 I26 J44) rfl) rfl hl.1 rfl (Nat.le_of_ble_eq_true rfl) dX4_layOut_62 ⟨hroomC, hroomS⟩) hD hS hA (fun u62 H locs hp62 hP hD hS => ?_)
        try dsimp only at hp62
        obtain ⟨J62, rfl, hEJ62, hPL62⟩ := hp62
        have hJ62 : ∀ s, s < T 0 0 → J62 35 s = lN (sA T (cnt (lays T r)) s) ∧ J62 36 s = lN (pS T (cnt (lays T r)) s) ∧ J62 37 s = lN (pE T (cnt (lays T r)) s) := fun s hs => by rw [hEJ62 35 (by decide), hEJ62 36 (by decide), hEJ62 37 (by decide)]; exact hA44 s hs
        have hU26 : ∀ t, t < (lays T r).length → I26 43 t = 0 := fun t ht => by rw [e26 43 (by decide)]; exact hU9 t ht
        have hcp9 : isCap (cap9 0) := by rw [hc9]; exact (capAt_ok hcp hlen9).1
        have hlen1 := TW_len hW0 (lays_TW hW0 (r + 1) (by omega))
        have hsl1 : (lays T (r + 1)).length ≤ (layM T).length := by
          by_cases h9 : rndF T (lays T r) (r + 1) = []
          · have h8 : lays T (r + 1) = lays T r := by show lays T r ++ rndF T (lays T r) (r + 1) = _; rw [h9, List.append_nil]
            rw [h8]
            exact lays_le hrs.1
          · exact lays_le (stop_is hW0 (r := r + 1) (fun q hq => by rcases lt_s2 hq with rfl | h7; exact h9; exact hq9 q h7)).1
        have hroom1 : capAt (cap 0) (lays T (r + 1)).length ≤ capAt (cap 0) (layM T).length := capAt_mono hcp hlenM hsl1
        have htr : capAt (cap9 0) (lays T (r + 1)).length = capAt (cap 0) (lays T (r + 1)).length := by rw [hc9]; exact capAt_trans hcp hlen1 (lays_le (by omega))
        have hge1 := (capAt_ok hcp9 hlen1).2.2
        have hP : va_P D vwCl (Wd y ad cap9 I26 J62) H := hP
        have hD : va_D A (Wd y ad cap9 I26 J62) := hD
        refine lv_aload_n hx hb dX4_layOut_65 rfl (lv_at hl 0 rfl) ?_
        refine lv_iload_n hx hb dX4_layOut_66 rfl (lv_at hl 2 rfl) ?_
        refine wk_i (Wf := Wt y) (run_v (As := [.int (nI (r + 1))]) (rest := []) (b := (ad 17)) hx hb hml hown hO.2 (c_X4_anyWanted l D y ad cap9 I26 J62 H.size hT26 hW0 hTWr hJ62 (hTH26 J62) hPL62 hcp9 hU26 (r0 := r + 1) (by omega)) k_X4_anyWanted ml_X4_74 ⟨rfl, rfl⟩ ⟨Nat.le_of_ble_eq_true rfl, Nat.le_of_ble_eq_true rfl⟩ (pre_VW hO hP hD (wd_17 y ad cap9 I26 J62) rfl) rfl hl.1 rfl (Nat.le_of_ble_eq_true rfl) dX4_layOut_67 ⟨(by show (capAt (cap 0) (lays T r).length - cap 0) + (capAt (cap9 0) (lays T (r + 1)).length - cap9 0) ≤ capAt (cap 0) (layM T).length - cap 0; rw [htr]; omega), (by show 50 * (capAt (cap 0) (lays T r).length - cap 0) + 50 * (capAt (cap9 0) (lays T (r + 1)).length - cap9 0) ≤ 50 * (capAt (cap 0) (layM T).length - cap 0); rw [htr]; omega)⟩) hD hS hA (fun r67 u67 H locs hp67 hP hD hS => ?_)
        try dsimp only at hp67
        obtain ⟨cap67, I67, J67, rfl, hc67, er67, hTH67, hE67, hEJ67, hR67, hU67⟩ := hp67
        have er67 : r67 = if ¬ rndF T (lays T r) (r + 1) = [] then 1 else 0 := by
          rw [er67]
          by_cases h9 : rndF T (lays T r) (r + 1) = []
          · rw [if_pos h9, if_neg (fun h8 => h8 h9)]
          · rw [if_neg h9, if_pos h9]
        have hc67 : cap67 0 = capAt (cap 0) (lays T (r + 1)).length := by rw [hc67]; exact htr
        have hT67 : RT18 I67 T := RT18_eqx hT26 (fun j h1 h2 => hE67 j (by simp; omega))
        have hP : va_P D vwCl (Wd y ad cap67 I67 J67) H := hP
        have hD : va_D A (Wd y ad cap67 I67 J67) := hD
        refine lv_if_ne (tgt := 76) hx hb dX4_layOut_70 (by decide) (fun c70 => ?_) (fun c70 => ?_)
        · skip
          have c70 := if01_n er67 c70
          refine lv_iinc (v := (nI ((r + 1) + 1))) (lv' := [(2, .int (nI ((r + 1) + 1))), (0, .ref (ad 17)), (1, .ref (ad 1))]) hx hb dX4_layOut_76 hl (k := 2) rfl (nI_1 _) (by decide) rfl (fun ls hl => ?_)
          refine lv_goto (tgt := 17) hx hb dX4_layOut_79 (by decide) ?_
          refine W.widen (k := capAt (cap 0) (lays T (r + 1)).length - cap 0) (n := 50 * (capAt (cap 0) (lays T (r + 1)).length - cap 0)) (by show (capAt (cap 0) (lays T r).length - cap 0) + (capAt (cap9 0) (lays T (r + 1)).length - cap9 0) ≤ _; rw [htr]; omega) (by show 50 * (capAt (cap 0) (lays T r).length - cap 0) + 50 * (capAt (cap9 0) (lays T (r + 1)).length - cap9 0) ≤ _; rw [htr]; omega) ?_
          exact ih17 (r + 1) cap67 I67 J67 (by have h5 := (stop_is hW0 (r := r + 1) (fun q hq => by rcases lt_s2 hq with rfl | h7; exact c70; exact hq9 q h7)).1; omega) (fun q hq => by rcases lt_s2 hq with rfl | h7; exact c70; exact hq9 q h7) hc67 hTH67 hT67 hU67 (EqX.tr2 (EqX.tr2 (S := [17, 18, 19, 20, 21, 22, 23, 24, 25, 27, 28, 29, 30, 31, 32, 33, 38, 39, 40, 41, 42, 43, 44, 46, 47]) hE9 (show EqX [17] I9 I26 from fun j hj => e26 j (by simpa using hj)) (by decide) (by decide)) hE67 (by decide) (by decide)) (EqJ.tr2 (EqJ.tr2 (S := [34, 35, 36, 37, 45]) (EqJ.tr2 (S := [34, 35, 36, 37, 45]) hEJ9 hEJ44 (by decide) (by decide)) hEJ62 (by decide) (by decide)) hEJ67 (by decide) (by decide)) (by omega) _ _ hP hD hS ls (by exact lv_sub hl [1, 2, 0] rfl)
        · skip
          have c70 := if01_z er67 c70
          refine lv_goto (tgt := 82) hx hb dX4_layOut_73 (by decide) ?_
          have h0 : rndF T (lays T r) (r + 1) = [] := Classical.byContradiction c70
          have hrr : lays T (r + 1) = layM T := by
            show lays T r ++ rndF T (lays T r) (r + 1) = _
            rw [h0, List.append_nil, hrs.2 h0]
            rfl
          have hLM : lays T r = layM T := by rw [← hrr]; show _ = lays T r ++ rndF T (lays T r) (r + 1); rw [h0, List.append_nil]
          have hrst := hrs.2 h0
          rw [h0, List.append_nil] at hTH67 hU67
          have hTWM : TW T (layM T) := by rw [← hLM]; exact hTWr
          have hJ67 : ∀ s, s < T 0 0 → J67 35 s = lN (sA T (cnt (layM T)) s) ∧ J67 36 s = lN (pS T (cnt (layM T)) s) ∧ J67 37 s = lN (pE T (cnt (layM T)) s) := fun s hs => by rw [hEJ67 35 (by decide), hEJ67 36 (by decide), hEJ67 37 (by decide), ← hLM]; exact hJ62 s hs
          have hPL67 : PL J67 T (layM T) := fun t ht => by rw [← hLM] at ht ⊢; rw [hR67 t ht]; exact hPL62 t ht
          rw [hLM] at hTH67 hU67
          rw [hrr] at hc67
          refine W.widen (k := capAt (cap 0) (layM T).length - cap 0) (n := 50 * (capAt (cap 0) (layM T).length - cap 0)) (by show (capAt (cap 0) (lays T r).length - cap 0) + (capAt (cap9 0) (lays T (r + 1)).length - cap9 0) ≤ _; rw [htr, hrr]; omega) (by show 50 * (capAt (cap 0) (lays T r).length - cap 0) + 50 * (capAt (cap9 0) (lays T (r + 1)).length - cap9 0) ≤ _; rw [htr, hrr]; omega) ?_
          refine lv_aload_n hx hb dX4_layOut_82 rfl (lv_at hl 0 rfl) ?_
          refine wk_v (Wf := Wt y) (run_v (As := []) (rest := []) (b := (ad 17)) hx hb hml hown hO.2 (c_X4_routeAll l D y ad cap67 I67 J67 H.size hT67 hW0 hTWM hJ67 hTH67 hPL67 (fun h9 => lays_tz _ h9) hU67) k_X4_routeAll ml_X4_78 ⟨rfl, rfl⟩ ⟨Nat.le_of_ble_eq_true rfl, Nat.le_of_ble_eq_true rfl⟩ (pre_VW hO hP hD (wd_17 y ad cap67 I67 J67) rfl) rfl hl.1 rfl (Nat.le_of_ble_eq_true rfl) dX4_layOut_83 ⟨(Nat.le_refl _), (Nat.le_refl _)⟩) hD hS hA (fun u83 H locs hp83 hP hD hS => ?_)
          try dsimp only at hp83
          obtain ⟨I83, rfl, hE83, h835, hRV83⟩ := hp83
          have hP : va_P D vwCl (Wd y ad cap67 I83 J67) H := hP
          have hD : va_D A (Wd y ad cap67 I83 J67) := hD
          refine W.vret hx hb hr (fun t ht hW => ⟨⟨(ad, cap67, I83, J67), rfl, ?_, by rw [ht]; exact hP, by show va_D (va_A (Wd y ad cap I J) s.heap.size) _; rw [hAe]; exact hD⟩, hS.F ht⟩) hS.2.2 dX4_layOut_86
          have e83 : ∀ j, j ≠ 17 → j ≠ 43 → j ≠ 48 → j ≠ 49 → I83 j = I67 j := fun j h1 h2 h3 h4 => hE83 j (by simp; omega)
          refine ⟨cap67, I83, J67, rfl, hc67, RT18_eqx hT67 (fun j h1 h2 => e83 j (by omega) (by omega) (by omega) (by omega)), ?_, ⟨?_, hRV83.2.1.1, hRV83.2.1.2.1, hRV83.2.1.2.2⟩, ?_, ?_⟩
          · obtain ⟨⟨g1, g2, g3, g4⟩, gA, gB, gC, gE⟩ := hTH67
            simp only [List.append_nil] at gA g3
            refine ⟨⟨?_, g3, g4, hTWM, fun h9 => lays_tz _ h9⟩, ?_, hPL67, hRV83.1, hJ67, ?_⟩
            · rw [e83 38 (by decide) (by decide) (by decide) (by decide)]; exact g1
            · intro t ht
              obtain ⟨k1, k2, k3, k4⟩ := gA t ht
              rw [e83 39 (by decide) (by decide) (by decide) (by decide), e83 40 (by decide) (by decide) (by decide) (by decide), e83 41 (by decide) (by decide) (by decide) (by decide), e83 42 (by decide) (by decide) (by decide) (by decide), e83 44 (by decide) (by decide) (by decide) (by decide)]
              exact ⟨k1, k2, k3, k4, hRV83.2.2 t ht, gB t ht⟩
            · rw [hEJ67 34 (by decide), hEJ62 34 (by decide), hend44, hLM]
          · rw [h835, hE67 17 (by decide), ← eI26]
            simp [va_up, upd, hrst]
          · exact EqX.tr2 (EqX.tr2 (S := [17, 18, 19, 20, 21, 22, 23, 24, 25, 27, 28, 29, 30, 31, 32, 33, 38, 39, 40, 41, 42, 43, 44, 46, 47]) (EqX.tr2 (S := [17, 18, 19, 20, 21, 22, 23, 24, 25, 27, 28, 29, 30, 31, 32, 33, 38, 39, 40, 41, 42, 43, 44, 46, 47]) hE9 (show EqX [17] I9 I26 from fun j hj => e26 j (by simpa using hj)) (by decide) (by decide)) hE67 (by decide) (by decide)) hE83 (by decide) (by decide)
          · exact EqJ.tr2 (EqJ.tr2 (S := [34, 35, 36, 37, 45]) (EqJ.tr2 (S := [34, 35, 36, 37, 45]) hEJ9 hEJ44 (by decide) (by decide)) hEJ62 (by decide) (by decide)) hEJ67 (by decide) (by decide)
  have hca0 : capAt (cap 0) (lays T 0).length = cap 0 := by simp [lays, capAt]
  refine W.widen (k := capAt (cap 0) (lays T 0).length - cap 0) (n := 50 * (capAt (cap 0) (lays T 0).length - cap 0)) (Nat.zero_le _) (Nat.zero_le _) ?_
  exact loop17 2402 0 cap I12 J (by omega) (fun q hq => absurd hq (by omega)) hca0.symm (TH_nil h38a h38b (cap_ge hcp).2 h46 h47) (RT18_eqx hT5 (fun j h1 h2 => hE12 j (by simp; omega))) (fun t ht => absurd ht (by simp [lays])) (EqX.tr2 hE5 hE12 (by decide) (by decide)) EqJ.rf (by omega) _ _ hP hD hS ls (by exact lv_sub hl [1, 2, 0] rfl)
