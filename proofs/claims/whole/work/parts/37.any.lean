set_option maxHeartbeats 4000000 in
set_option maxRecDepth 100000 in
theorem c_X4_anyWanted (l : Launch) (D : va_G) (y : Nat → ClassId) (ad : Nat → Nat) (cap : Nat → Nat) (I : Nat → Nat → Int32) (J : Nat → Nat → Int64) (sz : Nat) {T : Nat → Nat → Nat} {M : List Th} (hT : RT18 I T) (hW : WF T) (hTWM : TW T M) (hJ : ∀ s, s < T 0 0 → J 35 s = lN (sA T (cnt M) s) ∧ J 36 s = lN (pS T (cnt M) s) ∧ J 37 s = lN (pE T (cnt M) s)) (hTH : TH I J T (cap 0) M []) (hPL : PL J T M) (hcp : isCap (cap 0)) (hU : ∀ t, t < M.length → I 43 t = 0) {r0 : Nat} (hr0 : r0 ≤ 2401) : Met l yX4_anyWanted [.code yX4_anyWanted cX4_anyWanted 3 (some .boolean)] ({ frames := 5, cells := (capAt (cap 0) (M ++ (rndF T M r0)).length - cap 0), slots := (50 * (capAt (cap 0) (M ++ (rndF T M r0)).length - cap 0)), locals := 139 }) (va_Pc [.ref (ad 17), .int (nI r0)] (PW D y (Wd y ad cap I J) sz)) (va_Qi (fun (r : Int32) (u : St4) => ∃ cap' I' J', u = (ad, cap', I', J') ∧ cap' 0 = capAt (cap 0) (M ++ (rndF T M r0)).length ∧ r = (if (rndF T M r0) = [] then 0 else 1) ∧ TH I' J' T (cap' 0) (M ++ (rndF T M r0)) [] ∧ EqX [38, 39, 40, 41, 42, 43, 44, 46, 47] I I' ∧ EqJ [45] J J' ∧ (∀ t, t < M.length → J' 45 t = J 45 t) ∧ (∀ t, t < (M ++ (rndF T M r0)).length → I' 43 t = 0)) (Aft D (Wt y) (Wd y ad cap I J) sz) (va_A (Wd y ad cap I J) sz)) (capAt (cap 0) (M ++ (rndF T M r0)).length - cap 0) (50 * (capAt (cap 0) (M ++ (rndF T M r0)).length - cap 0)) (va_A (Wd y ad cap I J) sz) := by
  refine Met.ofW (cc := cX4_anyWanted) (maxL := 3) (ret := (some .boolean)) (by decide) rfl ?_
  intro p e s m args below meth c s₁ B hml hv
  obtain ⟨rfl, rfl, hP, hD0, hO⟩ := hv
  have hx := B.exec
  have hb := B.bytes
  have hr := B.returns
  have hown : s.vm.findClass RX4 = some m.cls := findClass_of_methodNamed B.named
  have hlocks := B.notSynchronized
  have hK := hO.1
  have hts : ∀ w ∈ lw_E, w.before ([.ref (ad 17), .int (nI r0)] : List Value).toArray s = true := fun w h => hO.2 w h _
  clear B
  have hD := hD0.self (sz := s.heap.size)
  generalize hAe : va_A (Wd y ad cap I J) s.heap.size = A at hD ⊢
  have hA : ∀ q : Nat, s.heap.size ≤ q → A q := fun q h => by rw [← hAe]; exact Or.inr h
  have hS : va_S A s.heap s.heap [] := va_S.rf
  have hl := lv_entry ([.ref (ad 17), .int (nI r0)]) (n := 3) (Nat.le_of_ble_eq_true rfl)
  rw [lg_entry_eq]
  generalize (lg_sl ([.ref (ad 17), .int (nI r0)]) ++ List.replicate (3 - (lg_sl ([.ref (ad 17), .int (nI r0)])).length) Slot.unset).toArray = ls at hl ⊢
  have hl : lv_has ls 3 [(0, .ref (ad 17)), (1, .int (nI r0))] := hl
  have hW0 := hW
  obtain ⟨⟨w1, w2, w3, w4, w5, w6, w7⟩, wS, wL, wB, wK, wTk, wT0⟩ := hW
  have hU : ∀ t, t < (M ++ []).length → I 43 t = 0 := fun t ht => hU t (by simpa using ht)
  have hnM : ∀ s, cnt M s ≤ 2400 := fun s => Nat.le_trans (cnt_le M s) (TW_len hW0 hTWM)
  have hMlen : M.length ≤ 2400 := TW_len hW0 hTWM
  refine lv_aload_n hx hb dX4_anyWanted_0 rfl (lv_at hl 0 rfl) ?_
  refine va_get (D := D) (T := TX4) (N := 9) hx hb hts jnX4 hown hK hP 17 (wd_17 y ad cap I J) rfl 0 (by decide) (hts _ fl_X4_12) (fun _ h9 => h9) rfl dX4_anyWanted_1 ?_
  refine rk_i (run_vn (As := []) (rest := []) (b := (ad 18)) hx hb hml hown hO.2 (c_X7_hasThunks l D y (n1 := T 0 5) (hT.1.2.2.2.2.2.1 ▸ wd_18 y ad cap I J)) k_X7_hasThunks mn_X4_81 ⟨rfl, rfl⟩ ⟨Nat.le_of_ble_eq_true rfl, Nat.le_of_ble_eq_true rfl⟩ (pre_VR hO hP (wd_18 y ad cap I J) rfl) rfl hl.1 rfl (Nat.le_of_ble_eq_true rfl) dX4_anyWanted_4 ⟨(Nat.zero_le _), (Nat.zero_le _)⟩) (fun r4 er4 => ?_)
  try dsimp only at er4
  refine lv_if_ne (tgt := 12) hx hb dX4_anyWanted_7 (by decide) (fun c7 => ?_) (fun c7 => ?_)
  · skip
    have c7 := if01_n er4 c7
    have htz : 0 < T 0 5 := by rw [show (0 : Int32) = nI 0 from rfl, nI_leI (by omega) (by omega)] at c7; omega
    have hF : rndF T M r0 = rnd T M r0 (T 0 2) := by unfold rndF; rw [if_neg (by omega)]
    refine lv_iconst (v := 0) hx hb dX4_anyWanted_12 (by decide) ?_
    rw [show (0 : Int32) = (nI 0) from rfl]
    refine lv_istore_n (lv' := [(2, .int (nI 0)), (0, .ref (ad 17)), (1, .int (nI r0))]) hx hb dX4_anyWanted_13 rfl hl (by decide) rfl (fun ls hl => ?_)
    have loop14 : ∀ (n14 : Nat) (k : Nat) (cap9 : Nat → Nat) (I9 : Nat → Nat → Int32) (J9 : Nat → Nat → Int64) , (k ≤ T 0 2) → (cap9 0 = capAt (cap 0) (M ++ (rnd T M r0 k)).length) → (TH I9 J9 T (cap9 0) M (rnd T M r0 k)) → (EqX [38, 39, 40, 41, 42, 43, 44, 47] I I9) → (EqJ [45] J J9) → (PL J9 T M) → (∀ t, t < (M ++ (rnd T M r0 k)).length → I9 43 t = 0) → T 0 2 + 1 ≤ k + n14 → ∀ (H : Heap) (locs : List Loc), va_P D vwCl (Wd y ad cap9 I9 J9) H → va_D A (Wd y ad cap9 I9 J9) → va_S A s.heap H locs → ∀ ls : Array Slot, lv_has ls 3 [(0, .ref (ad 17)), (1, .int (nI r0)), (2, .int (nI k))] → W p l e (headSpec [.code yX4_anyWanted cX4_anyWanted 3 (some .boolean)] ({ frames := 5, cells := (capAt (cap 0) (M ++ (rndF T M r0)).length - cap 0), slots := (50 * (capAt (cap 0) (M ++ (rndF T M r0)).length - cap 0)), locals := 139 })).room s m ([.ref (ad 17), .int (nI r0)] : List Value).toArray below meth c H locs (capAt (cap 0) (M ++ (rnd T M r0 k)).length - cap 0) (50 * (capAt (cap 0) (M ++ (rnd T M r0 k)).length - cap 0)) (MQ below (va_Qi (fun (r : Int32) (u : St4) => ∃ cap' I' J', u = (ad, cap', I', J') ∧ cap' 0 = capAt (cap 0) (M ++ (rndF T M r0)).length ∧ r = (if (rndF T M r0) = [] then 0 else 1) ∧ TH I' J' T (cap' 0) (M ++ (rndF T M r0)) [] ∧ EqX [38, 39, 40, 41, 42, 43, 44, 46, 47] I I' ∧ EqJ [45] J J' ∧ (∀ t, t < M.length → J' 45 t = J 45 t) ∧ (∀ t, t < (M ++ (rndF T M r0)).length → I' 43 t = 0)) (Aft D (Wt y) (Wd y ad cap I J) s.heap.size) A) ([.ref (ad 17), .int (nI r0)] : List Value).toArray s (capAt (cap 0) (M ++ (rndF T M r0)).length - cap 0) (50 * (capAt (cap 0) (M ++ (rndF T M r0)).length - cap 0)) A) (F0 m 14 ls []) := by
      intro n14
      induction n14 with
      | zero =>
        intro k cap9 I9 J9 hk hc9 hTH9 hE9 hEJ9 hPL9 hU9 hmeas
        exact absurd hmeas (by omega)
      | succ n14 ih14 =>
        intro k cap9 I9 J9 hk hc9 hTH9 hE9 hEJ9 hPL9 hU9 hmeas H locs hP hD hS ls hl
        have hT9 : RT18 I9 T := RT18_eqx hT (fun j h1 h2 => hE9 j (by simp; omega))
        have hJ9 : ∀ s, s < T 0 0 → J9 35 s = lN (sA T (cnt M) s) ∧ J9 36 s = lN (pS T (cnt M) s) ∧ J9 37 s = lN (pE T (cnt M) s) := fun s hs => by rw [hEJ9 35 (by decide), hEJ9 36 (by decide), hEJ9 37 (by decide)]; exact hJ s hs
        have hTW9 := rnd_TW hW0 hr0 hTWM k hk
        have hlen9 := TW_len hW0 hTW9
        have hMlen : M.length ≤ 2400 := TW_len hW0 hTWM
        have hge0 := (capAt_ok hcp hlen9).2.2
        have hroom0 : capAt (cap 0) (M ++ rnd T M r0 k).length ≤ capAt (cap 0) (M ++ rndF T M r0).length := capAt_mono hcp (by rw [hF]; exact TW_len hW0 (rnd_TW hW0 hr0 hTWM _ (by omega))) (by rw [hF]; exact rnd_le hk)
        have hroomC : capAt (cap 0) (M ++ rnd T M r0 k).length - cap 0 ≤ capAt (cap 0) (M ++ (rndF T M r0)).length - cap 0 := by omega
        have hroomS : 50 * (capAt (cap 0) (M ++ rnd T M r0 k).length - cap 0) ≤ 50 * (capAt (cap 0) (M ++ (rndF T M r0)).length - cap 0) := by omega
        refine lv_iload_n hx hb dX4_anyWanted_14 rfl (lv_at hl 2 rfl) ?_
        refine lv_aload_n hx hb dX4_anyWanted_15 rfl (lv_at hl 0 rfl) ?_
        refine va_get (D := D) (T := TX4) (N := 9) hx hb hts jnX4 hown hK hP 17 (wd_17 y ad cap9 I9 J9) rfl 0 (by decide) (hts _ fl_X4_12) (fun _ h9 => h9) rfl dX4_anyWanted_16 ?_
        refine va_getN (D := D) (T := TX7) (N := 8) hx hb hts jnX7 hown hK hP 18 (wd_18 y ad cap9 I9 J9) rfl 3 (by decide) (hts _ fn_X4_85) (fun _ h9 => h9) rfl dX4_anyWanted_19 ?_
        refine va_getN (D := D) (T := TX1) (N := 5) hx hb hts jnX1 hown hK hP 29 (wd_29 y ad cap9 I9 J9) rfl 0 (by decide) (hts _ fn_X4_89) (fun _ h9 => h9) rfl dX4_anyWanted_22 ?_
        refine lv_topi (fun v22 ev22 => ?_)
        obtain rfl : v22 = (nI (T 0 2)) := by
          rw [ev22]; exact hT9.1.2.2.1
        refine lv_icmp_ge (tgt := 57) hx hb dX4_anyWanted_25 (by decide) (fun c25 => ?_) (fun c25 => ?_)
        · skip
          have c25 := (nI_leI (a := (T 0 2)) (b := k) (by omega) (by omega)).mp c25
          refine lv_aload_n hx hb dX4_anyWanted_57 rfl (lv_at hl 0 rfl) ?_
          refine va_get (D := D) (T := TX4) (N := 9) hx hb hts jnX4 hown hK hP 17 (wd_17 y ad cap9 I9 J9) rfl 2 (by decide) (hts _ fl_X4_28) (fun _ h9 => h9) rfl dX4_anyWanted_58 ?_
          refine wk_i (Wf := Wt y) (run_vn (As := []) (rest := []) (b := (ad 38)) hx hb hml hown hO.2 (c_X6_makeWanted l D y ad cap9 I9 J9 H.size hTH9 hTW9 w1) k_X6_makeWanted mn_X4_105 ⟨rfl, rfl⟩ ⟨Nat.le_of_ble_eq_true rfl, Nat.le_of_ble_eq_true rfl⟩ (pre_VW hO hP hD (wd_38 y ad cap9 I9 J9) rfl) rfl hl.1 rfl (Nat.le_of_ble_eq_true rfl) dX4_anyWanted_61 ⟨hroomC, hroomS⟩) hD hS hA (fun r61 u61 H locs hp61 hP hD hS => ?_)
          try dsimp only at hp61
          obtain ⟨I61, rfl, hE61, hY61, hN61⟩ := hp61
          have hkB : k = T 0 2 := by omega
          rw [hkB, ← hF] at hY61 hN61 hc9 hU9 hTH9
          have hP : va_P D vwCl (Wd y ad cap9 I61 J9) H := hP
          have hD : va_D A (Wd y ad cap9 I61 J9) := hD
          have hEJ45 : ∀ t, t < M.length → J9 45 t = J 45 t := fun t ht => by rw [hPL9 t ht, hPL t ht]
          refine W.widen (k := capAt (cap 0) (M ++ (rndF T M r0)).length - cap 0) (n := 50 * (capAt (cap 0) (M ++ (rndF T M r0)).length - cap 0)) (by omega) (by omega) ?_
          refine W.zret (v := r61) hx hb hr (by by_cases h9 : rndF T M r0 = []; (rw [(hY61 h9).1]; decide); (rw [(hN61 h9).1]; decide)) (fun t ht hW => ⟨⟨_, (ad, cap9, I61, J9), rfl, ?_, by rw [ht]; exact hP, by show va_D (va_A (Wd y ad cap I J) s.heap.size) _; rw [hAe]; exact hD⟩, hS.F ht⟩) hS.2.2 dX4_anyWanted_64
          by_cases h9 : rndF T M r0 = []
          · obtain ⟨g1, g2⟩ := hY61 h9
            subst g2
            refine ⟨cap9, I61, J9, rfl, hc9, by rw [g1, if_pos h9], ?_, EqX.tr2 (S1 := []) EqX.rf hE9 (by decide) (by decide), hEJ9, fun t ht => hEJ45 t ht, hU9⟩
            rw [h9, List.append_nil]
            rw [h9] at hTH9
            exact hTH9
          · obtain ⟨g1, g2⟩ := hN61 h9
            refine ⟨cap9, I61, J9, rfl, hc9, by rw [g1, if_neg h9], g2, EqX.tr2 hE9 hE61 (by decide) (by decide), hEJ9, fun t ht => hEJ45 t ht, ?_⟩
            intro t ht
            rw [hE61 43 (by decide)]
            exact hU9 t ht
        · skip
          have c25 := mt (nI_leI (a := (T 0 2)) (b := k) (by omega) (by omega)).mpr c25
          refine lv_aload_n hx hb dX4_anyWanted_28 rfl (lv_at hl 0 rfl) ?_
          refine lv_iload_n hx hb dX4_anyWanted_29 rfl (lv_at hl 2 rfl) ?_
          refine rk_i (run_v (As := [.int (nI k)]) (rest := []) (b := (ad 17)) hx hb hml hown hO.2 (c_X4_isDirect l D y ad cap9 I9 J9 hT9 hW0 hnM hJ9 (b0 := k) (by omega)) k_X4_isDirect ml_X4_94 ⟨rfl, rfl⟩ ⟨Nat.le_of_ble_eq_true rfl, Nat.le_of_ble_eq_true rfl⟩ (pre_VR hO hP (wd_17 y ad cap9 I9 J9) rfl) rfl hl.1 rfl (Nat.le_of_ble_eq_true rfl) dX4_anyWanted_30 ⟨hroomC, hroomS⟩) (fun r30 er30 => ?_)
          try dsimp only at er30
          refine lv_if_ne (tgt := 51) hx hb dX4_anyWanted_33 (by decide) (fun c33 => ?_) (fun c33 => ?_)
          · skip
            have c33 := if01_n er30 c33
            have eR : rnd T M r0 (k + 1) = rnd T M r0 k := by simp only [rnd, stp]; rw [if_pos (Or.inl c33)]
            refine lv_iinc (v := (nI (k + 1))) (lv' := [(2, .int (nI (k + 1))), (0, .ref (ad 17)), (1, .int (nI r0))]) hx hb dX4_anyWanted_51 hl (k := 2) rfl (nI_1 _) (by decide) rfl (fun ls hl => ?_)
            refine lv_goto (tgt := 14) hx hb dX4_anyWanted_54 (by decide) ?_
            refine W.widen (k := capAt (cap 0) (M ++ rnd T M r0 (k + 1)).length - cap 0) (n := 50 * (capAt (cap 0) (M ++ rnd T M r0 (k + 1)).length - cap 0)) (by rw [eR]; omega) (by rw [eR]; omega) ?_
            exact ih14 (k + 1) cap9 I9 J9 (by omega) (by rw [eR]; exact hc9) (by rw [eR]; exact hTH9) hE9 hEJ9 hPL9 (by rw [eR]; exact hU9) (by omega) _ _ hP hD hS ls (by exact lv_sub hl [1, 2, 0] rfl)
          · skip
            have c33 := if01_z er30 c33
            refine lv_aload_n hx hb dX4_anyWanted_36 rfl (lv_at hl 0 rfl) ?_
            refine lv_iload_n hx hb dX4_anyWanted_37 rfl (lv_at hl 2 rfl) ?_
            refine rk_i (run_v (As := [.int (nI k)]) (rest := []) (b := (ad 17)) hx hb hml hown hO.2 (c_X4_nearestThunk l D y ad cap9 I9 J9 hT9 hW0 hlen9 hTW9 hJ9 hTH9 hPL9 (fun _ => htz) (b0 := k) (by omega)) k_X4_nearestThunk ml_X4_97 ⟨rfl, rfl⟩ ⟨Nat.le_of_ble_eq_true rfl, Nat.le_of_ble_eq_true rfl⟩ (pre_VR hO hP (wd_17 y ad cap9 I9 J9) rfl) rfl hl.1 rfl (Nat.le_of_ble_eq_true rfl) dX4_anyWanted_38 ⟨hroomC, hroomS⟩) (fun r38 er38 => ?_)
            try dsimp only at er38
            obtain rfl : r38 = (oI (bst T M k (T 0 0))) := by
              exact er38
            refine lv_iconst (v := (-1)) hx hb dX4_anyWanted_41 (by decide) ?_
            refine lv_icmp_ne (tgt := 51) hx hb dX4_anyWanted_42 (by decide) (fun c42 => ?_) (fun c42 => ?_)
            · skip
              have hbn : ¬ bst T M k (T 0 0) = none := fun h9 => c42 ((oI_neg (fun u hu => by have := bst_lt (T 0 0) u hu; omega)).mpr h9)
              have eR : rnd T M r0 (k + 1) = rnd T M r0 k := by simp only [rnd, stp]; rw [if_pos (Or.inr hbn)]
              refine lv_iinc (v := (nI (k + 1))) (lv' := [(2, .int (nI (k + 1))), (0, .ref (ad 17)), (1, .int (nI r0))]) hx hb dX4_anyWanted_51 hl (k := 2) rfl (nI_1 _) (by decide) rfl (fun ls hl => ?_)
              refine lv_goto (tgt := 14) hx hb dX4_anyWanted_54 (by decide) ?_
              refine W.widen (k := capAt (cap 0) (M ++ rnd T M r0 (k + 1)).length - cap 0) (n := 50 * (capAt (cap 0) (M ++ rnd T M r0 (k + 1)).length - cap 0)) (by rw [eR]; omega) (by rw [eR]; omega) ?_
              exact ih14 (k + 1) cap9 I9 J9 (by omega) (by rw [eR]; exact hc9) (by rw [eR]; exact hTH9) hE9 hEJ9 hPL9 (by rw [eR]; exact hU9) (by omega) _ _ hP hD hS ls (by exact lv_sub hl [1, 2, 0] rfl)
            · skip
              have hbn := (oI_neg (fun u hu => by have := bst_lt (T 0 0) u hu; omega)).mp c42
              have eR : rnd T M r0 (k + 1) = rnd T M r0 k ++ wntL T M (rnd T M r0 k) r0 k := by simp only [rnd, stp]; rw [if_neg (fun h9 => h9.elim c33 (fun h8 => h8 hbn))]
              have hTW1 := rnd_TW hW0 hr0 hTWM (k + 1) (by omega)
              have hlen1 := TW_len hW0 hTW1
              have hroom1 : capAt (cap 0) (M ++ rnd T M r0 (k + 1)).length ≤ capAt (cap 0) (M ++ rndF T M r0).length := capAt_mono hcp (by rw [hF]; exact TW_len hW0 (rnd_TW hW0 hr0 hTWM _ (by omega))) (by rw [hF]; exact rnd_le (by omega))
              have htr : capAt (cap9 0) (M ++ rnd T M r0 (k + 1)).length = capAt (cap 0) (M ++ rnd T M r0 (k + 1)).length := by rw [hc9]; exact capAt_trans hcp hlen1 (rnd_le (by omega))
              have hcp9 : isCap (cap9 0) := by rw [hc9]; exact (capAt_ok hcp hlen9).1
              have hge1 := (capAt_ok hcp9 hlen1).2.2
              refine lv_aload_n hx hb dX4_anyWanted_45 rfl (lv_at hl 0 rfl) ?_
              refine lv_iload_n hx hb dX4_anyWanted_46 rfl (lv_at hl 2 rfl) ?_
              refine lv_iload_n hx hb dX4_anyWanted_47 rfl (lv_at hl 1 rfl) ?_
              refine wk_v (Wf := Wt y) (run_v (As := [.int (nI k), .int (nI r0)]) (rest := []) (b := (ad 17)) hx hb hml hown hO.2 (c_X4_wantThunk l D y ad cap9 I9 J9 H.size hT9 hW0 hlen9 hTW9 hJ9 hTH9 hPL9 htz hcp9 hU9 (b0 := k) (r0 := r0) (by omega) hr0) k_X4_wantThunk ml_X4_101 ⟨rfl, rfl⟩ ⟨Nat.le_of_ble_eq_true rfl, Nat.le_of_ble_eq_true rfl⟩ (pre_VW hO hP hD (wd_17 y ad cap9 I9 J9) rfl) rfl hl.1 rfl (Nat.le_of_ble_eq_true rfl) dX4_anyWanted_48 ⟨(by show (capAt (cap 0) (M ++ (rnd T M r0 k)).length - cap 0) + (capAt (cap9 0) (M ++ (rnd T M r0 k ++ wntL T M (rnd T M r0 k) r0 k)).length - cap9 0) ≤ capAt (cap 0) (M ++ (rndF T M r0)).length - cap 0; rw [← eR, htr]; omega), (by show (50 * (capAt (cap 0) (M ++ (rnd T M r0 k)).length - cap 0)) + 50 * (capAt (cap9 0) (M ++ (rnd T M r0 k ++ wntL T M (rnd T M r0 k) r0 k)).length - cap9 0) ≤ 50 * (capAt (cap 0) (M ++ (rndF T M r0)).length - cap 0); rw [← eR, htr]; omega)⟩) hD hS hA (fun u48 H locs hp48 hP hD hS => ?_)
              try dsimp only at hp48
              obtain ⟨cap48, I48, J48, rfl, hc48, hTH48, hE48, hEJ48, hR48, hU48⟩ := hp48
              rw [← eR] at hc48 hTH48 hU48
              have hP : va_P D vwCl (Wd y ad cap48 I48 J48) H := hP
              have hD : va_D A (Wd y ad cap48 I48 J48) := hD
              refine lv_iinc (v := (nI (k + 1))) (lv' := [(2, .int (nI (k + 1))), (0, .ref (ad 17)), (1, .int (nI r0))]) hx hb dX4_anyWanted_51 hl (k := 2) rfl (nI_1 _) (by decide) rfl (fun ls hl => ?_)
              refine lv_goto (tgt := 14) hx hb dX4_anyWanted_54 (by decide) ?_
              refine W.widen (k := capAt (cap 0) (M ++ rnd T M r0 (k + 1)).length - cap 0) (n := 50 * (capAt (cap 0) (M ++ rnd T M r0 (k + 1)).length - cap 0)) (by rw [← eR, htr]; omega) (by rw [← eR, htr]; omega) ?_
              exact ih14 (k + 1) cap48 I48 J48 (by omega) (by rw [hc48, htr]) hTH48 (EqX.tr2 hE9 hE48 (by decide) (by decide)) (EqJ.tr2 hEJ9 hEJ48 (by decide) (by decide)) (fun t ht => by rw [hR48 t ht]; exact hPL9 t ht) hU48 (by omega) _ _ hP hD hS ls (by exact lv_sub hl [1, 2, 0] rfl)
    have hca0 : capAt (cap 0) (M ++ rnd T M r0 0).length = cap 0 := by simp only [rnd, List.append_nil]; unfold capAt; rw [if_pos (by have := hTH.1.2.2.1; simpa using this)]
    refine W.widen (k := capAt (cap 0) (M ++ rnd T M r0 0).length - cap 0) (n := 50 * (capAt (cap 0) (M ++ rnd T M r0 0).length - cap 0)) (Nat.zero_le _) (Nat.zero_le _) ?_
    exact loop14 (T 0 2 + 1) 0 cap I J (by omega) hca0.symm (by simp only [rnd]; exact hTH) EqX.rf EqJ.rf hPL (by simp only [rnd]; exact hU) (by omega) _ _ hP hD hS ls (by exact lv_sub hl [1, 2, 0] rfl)
  · skip
    have c7 := if01_z er4 c7
    have hz : T 0 5 = 0 := Classical.byContradiction (fun h9 => c7 (by rw [show (0 : Int32) = nI 0 from rfl, nI_leI (by omega) (by omega)]; omega))
    have hF : rndF T M r0 = [] := by unfold rndF; rw [if_pos hz]
    refine lv_iconst (v := 0) hx hb dX4_anyWanted_10 (by decide) ?_
    refine W.widen (k := capAt (cap 0) (M ++ (rndF T M r0)).length - cap 0) (n := 50 * (capAt (cap 0) (M ++ (rndF T M r0)).length - cap 0)) (Nat.zero_le _) (Nat.zero_le _) ?_
    refine W.zret (v := 0) hx hb hr (by decide) (fun t ht hW => ⟨⟨_, (ad, cap, I, J), rfl, ?_, by rw [ht]; exact hP, by show va_D (va_A (Wd y ad cap I J) s.heap.size) _; rw [hAe]; exact hD⟩, hS.F ht⟩) hS.2.2 dX4_anyWanted_11
    rw [hF, List.append_nil]
    have hca : capAt (cap 0) M.length = cap 0 := by unfold capAt; rw [if_pos (by have := hTH.1.2.2.1; simpa using this)]
    exact ⟨cap, I, J, rfl, hca.symm, by simp, hTH, EqX.rf, EqJ.rf, fun _ _ => rfl, fun t ht => hU t (by simpa using ht)⟩
