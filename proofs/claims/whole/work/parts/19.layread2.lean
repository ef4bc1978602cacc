theorem nI_z {a : Nat} (h : a < 2 ^ 31) : nI a = 0 ↔ a = 0 := by
  rw [← nI_0, nI_eq h (by omega)]
set_option maxHeartbeats 4000000 in
set_option maxRecDepth 100000 in
theorem c_X4_couldHelp (l : Launch) (D : va_G) (y : Nat → ClassId) (ad : Nat → Nat) (cap : Nat → Nat) (I : Nat → Nat → Int32) (J : Nat → Nat → Int64) {T : Nat → Nat → Nat} {M F : List Th} (hT : RT18 I T) (hW : WF T) (hM : (M ++ F).length ≤ 2400) (hTW : TW T (M ++ F)) (hJ : ∀ s, s < T 0 0 → J 35 s = lN (sA T (cnt M) s) ∧ J 36 s = lN (pS T (cnt M) s) ∧ J 37 s = lN (pE T (cnt M) s)) (hTH : TH I J T (cap 0) M F) (hPL : PL J T M) (htz : 0 < T 0 5) {s0 b0 : Nat} (hs0 : s0 < T 0 0) (hb0 : b0 < T 0 2) : Met l yX4_couldHelp [.code yX4_couldHelp cX4_couldHelp 6 (some .boolean)] ({ frames := 2, cells := 0, slots := 0, locals := 52 }) (va_Pc [.ref (ad 17), .int (nI s0), .int (nI b0)] (PR D y (Wd y ad cap I J))) (vp_Si (fun r => r = if couB T M b0 s0 = true then 1 else 0)) 0 0 (fun _ => False) := by
  refine Met.ofW (cc := cX4_couldHelp) (maxL := 6) (ret := (some .boolean)) (by decide) rfl ?_
  intro p e s m args below meth c s₁ B hml hv
  obtain ⟨rfl, hP, hO⟩ := hv
  have hx := B.exec
  have hb := B.bytes
  have hr := B.returns
  have hown : s.vm.findClass RX4 = some m.cls := findClass_of_methodNamed B.named
  have hlocks := B.notSynchronized
  have hK := hO.1
  have hts : ∀ w ∈ lw_E, w.before ([.ref (ad 17), .int (nI s0), .int (nI b0)] : List Value).toArray s = true := fun w h => hO.2 w h _
  clear B
  have hl := lv_entry ([.ref (ad 17), .int (nI s0), .int (nI b0)]) (n := 6) (Nat.le_of_ble_eq_true rfl)
  rw [lg_entry_eq]
  generalize (lg_sl ([.ref (ad 17), .int (nI s0), .int (nI b0)]) ++ List.replicate (6 - (lg_sl ([.ref (ad 17), .int (nI s0), .int (nI b0)])).length) Slot.unset).toArray = ls at hl ⊢
  have hl : lv_has ls 6 [(0, .ref (ad 17)), (1, .int (nI s0)), (2, .int (nI b0))] := hl
  have hW0 := hW
  obtain ⟨⟨w1, w2, w3, w4, w5, w6, w7⟩, wS, wL, wB, wK, wTk, wT0⟩ := hW
  obtain ⟨x1, x2, x6, x7, x8⟩ := wB b0 hb0
  obtain ⟨x3, x4, x5⟩ := wS _ x1
  have hnM : ∀ s, cnt M s ≤ 2400 := fun s => by have := cnt_le M s; rw [List.length_append] at hM; omega
  have hlen := hM
  rw [List.length_append] at hlen
  obtain ⟨y3, y4, y5⟩ := wS _ hs0
  refine lv_aload_n hx hb dX4_couldHelp_0 rfl (lv_at hl 0 rfl) ?_
  refine va_get (D := D) (T := TX4) (N := 9) hx hb hts jnX4 hown hK hP 17 (wd_17 y ad cap I J) rfl 0 (by decide) (hts _ fl_X4_12) (fun _ h9 => h9) rfl dX4_couldHelp_1 ?_
  refine va_getN (D := D) (T := TX7) (N := 8) hx hb hts jnX7 hown hK hP 18 (wd_18 y ad cap I J) rfl 3 (by decide) (hts _ fn_X4_85) (fun _ h9 => h9) rfl dX4_couldHelp_4 ?_
  refine va_getN (D := D) (T := TX1) (N := 5) hx hb hts jnX1 hown hK hP 29 (wd_29 y ad cap I J) rfl 4 (by decide) (hts _ fn_X4_108) (fun _ h9 => h9) rfl dX4_couldHelp_7 ?_
  refine lv_iload_n hx hb dX4_couldHelp_10 rfl (lv_at hl 2 rfl) ?_
  refine va_iald (D := D) hx hb hK hP 33 0 (wd_33 y ad cap I J) rfl (vp_in_nI (by omega) (by omega)) dX4_couldHelp_11 ?_
  rw [nI_clamp (n := b0) (by omega)]
  refine lv_topi (fun v11 ev11 => ?_)
  obtain rfl : v11 = (nI (T 9 b0)) := by
    rw [ev11]; exact (hT.2.2.2.1 _ (by omega)).2.2.2
  refine lv_istore_n (lv' := [(3, .int (nI (T 9 b0))), (0, .ref (ad 17)), (1, .int (nI s0)), (2, .int (nI b0))]) hx hb dX4_couldHelp_12 rfl hl (by decide) rfl (fun ls hl => ?_)
  refine lv_aload_n hx hb dX4_couldHelp_13 rfl (lv_at hl 1 rfl) ?_
  refine va_get (D := D) (T := TX4) (N := 9) hx hb hts jnX4 hown hK hP 17 (wd_17 y ad cap I J) rfl 0 (by decide) (hts _ fl_X4_12) (fun _ h9 => h9) rfl dX4_couldHelp_14 ?_
  refine va_getN (D := D) (T := TX7) (N := 8) hx hb hts jnX7 hown hK hP 18 (wd_18 y ad cap I J) rfl 0 (by decide) (hts _ fn_X4_115) (fun _ h9 => h9) rfl dX4_couldHelp_17 ?_
  refine va_getN (D := D) (T := TX5) (N := 5) hx hb hts jnX5 hown hK hP 19 (wd_19 y ad cap I J) rfl 4 (by decide) (hts _ fn_X4_143) (fun _ h9 => h9) rfl dX4_couldHelp_20 ?_
  refine lv_iload_n hx hb dX4_couldHelp_23 rfl (lv_at hl 2 rfl) ?_
  refine va_zald (D := D) hx hb hK hP 22 2 (wd_22 y ad cap I J) rfl (vp_in_nI (by omega) (by omega)) dX4_couldHelp_24 ?_
  rw [nI_clamp (n := s0) (by omega)]
  refine lv_topi (fun v24 ev24 => ?_)
  obtain rfl : v24 = (nI (T 3 s0)) := by
    rw [ev24]; exact (hT.2.1 _ (by omega)).2.2
  refine lv_if_eq (tgt := 40) hx hb dX4_couldHelp_25 (by decide) (fun c25 => ?_) (fun c25 => ?_)
  · skip
    refine lv_iconst (v := 0) hx hb dX4_couldHelp_40 (by decide) ?_
    refine W.zret (v := 0) hx hb hr (by decide) (fun t ht hW => ⟨_, rfl, ?_, ht⟩) (fun _ h => nomatch h) dX4_couldHelp_41
    first | (have h0 := (nI_z (by omega)).mp c25; simp [couB, h0]; done) | (obtain ⟨t, h1, _⟩ := has_some (by simp only [List.length_append]; omega) c37; have h2 := inB_fnd.mpr ⟨t, h1⟩; simp [couB, h2]; done)
  · skip
    refine lv_aload_n hx hb dX4_couldHelp_28 rfl (lv_at hl 1 rfl) ?_
    refine va_get (D := D) (T := TX4) (N := 9) hx hb hts jnX4 hown hK hP 17 (wd_17 y ad cap I J) rfl 2 (by decide) (hts _ fl_X4_28) (fun _ h9 => h9) rfl dX4_couldHelp_29 ?_
    refine lv_iload_n hx hb dX4_couldHelp_32 rfl (lv_at hl 2 rfl) ?_
    refine lv_iload_n hx hb dX4_couldHelp_33 rfl (lv_at hl 0 rfl) ?_
    refine rk_i (run_vn (As := [.int (nI s0), .int (nI (T 9 b0))]) (rest := []) (b := (ad 38)) hx hb hml hown hO.2 (c_X6_isMade l D y (wd_38 y ad cap I J) (wd_47 y ad cap I J) (s0 := s0) (l0 := T 9 b0) (by omega) (by omega)) k_X6_isMade mn_X4_147 ⟨rfl, rfl⟩ ⟨Nat.le_of_ble_eq_true rfl, Nat.le_of_ble_eq_true rfl⟩ (pre_VR hO hP (wd_38 y ad cap I J) rfl) rfl hl.1 rfl (Nat.le_of_ble_eq_true rfl) dX4_couldHelp_34 ⟨(Nat.zero_le _), (Nat.zero_le _)⟩) (fun r34 er34 => ?_)
    try dsimp only at er34
    rw [hTH.1.1, hTH.2.2.2.2 _ _ (by omega) (by omega)] at er34
    refine lv_if_eq (tgt := 42) hx hb dX4_couldHelp_37 (by decide) (fun c37 => ?_) (fun c37 => ?_)
    · skip
      have c37 := if01_z er34 c37
      refine lv_aload_n hx hb dX4_couldHelp_42 rfl (lv_at hl 1 rfl) ?_
      refine va_get (D := D) (T := TX4) (N := 9) hx hb hts jnX4 hown hK hP 17 (wd_17 y ad cap I J) rfl 1 (by decide) (hts _ fl_X4_21) (fun _ h9 => h9) rfl dX4_couldHelp_43 ?_
      refine va_getN (D := D) (T := TX0) (N := 4) hx hb hts jnX0 hown hK hP 34 (wd_34 y ad cap I J) rfl 2 (by decide) (hts _ fn_X4_129) (fun _ h9 => h9) rfl dX4_couldHelp_46 ?_
      refine lv_iload_n hx hb dX4_couldHelp_49 rfl (lv_at hl 2 rfl) ?_
      refine va_lald (D := D) hx hb hK hP 37 1 (wd_37 y ad cap I J) rfl (vp_in_nI (by omega) (by omega)) dX4_couldHelp_50 ?_
      rw [nI_clamp (n := s0) (by omega)]
      refine lv_topl (fun v50 ev50 => ?_)
      obtain rfl : v50 = (lN (pE T (cnt M) s0)) := by
        rw [ev50]; exact (hJ _ (by omega)).2.2
      refine lv_lstore (lv' := [(4, .long (lN (pE T (cnt M) s0))), (3, .int (nI (T 9 b0))), (0, .ref (ad 17)), (1, .int (nI s0)), (2, .int (nI b0))]) hx hb dX4_couldHelp_51 hl (by decide) rfl (fun ls hl => ?_)
      refine lv_aload_n hx hb dX4_couldHelp_53 rfl (lv_at hl 2 rfl) ?_
      refine va_get (D := D) (T := TX4) (N := 9) hx hb hts jnX4 hown hK hP 17 (wd_17 y ad cap I J) rfl 0 (by decide) (hts _ fl_X4_12) (fun _ h9 => h9) rfl dX4_couldHelp_54 ?_
      refine va_getN (D := D) (T := TX7) (N := 8) hx hb hts jnX7 hown hK hP 18 (wd_18 y ad cap I J) rfl 2 (by decide) (hts _ fn_X4_150) (fun _ h9 => h9) rfl dX4_couldHelp_57 ?_
      refine lv_aload_n hx hb dX4_couldHelp_60 rfl (lv_at hl 2 rfl) ?_
      refine va_get (D := D) (T := TX4) (N := 9) hx hb hts jnX4 hown hK hP 17 (wd_17 y ad cap I J) rfl 0 (by decide) (hts _ fl_X4_12) (fun _ h9 => h9) rfl dX4_couldHelp_61 ?_
      refine va_getN (D := D) (T := TX7) (N := 8) hx hb hts jnX7 hown hK hP 18 (wd_18 y ad cap I J) rfl 3 (by decide) (hts _ fn_X4_85) (fun _ h9 => h9) rfl dX4_couldHelp_64 ?_
      refine va_getN (D := D) (T := TX1) (N := 5) hx hb hts jnX1 hown hK hP 29 (wd_29 y ad cap I J) rfl 3 (by decide) (hts _ fn_X4_154) (fun _ h9 => h9) rfl dX4_couldHelp_67 ?_
      refine lv_iload_n hx hb dX4_couldHelp_70 rfl (lv_at hl 4 rfl) ?_
      refine va_iald (D := D) hx hb hK hP 32 0 (wd_32 y ad cap I J) rfl (vp_in_nI (by omega) (by omega)) dX4_couldHelp_71 ?_
      rw [nI_clamp (n := b0) (by omega)]
      refine lv_topi (fun v71 ev71 => ?_)
      obtain rfl : v71 = (nI (T 8 b0)) := by
        rw [ev71]; exact (hT.2.2.2.1 _ (by omega)).2.2.1
      refine lv_aload_n hx hb dX4_couldHelp_72 rfl (lv_at hl 2 rfl) ?_
      refine lv_iload_n hx hb dX4_couldHelp_73 rfl (lv_at hl 4 rfl) ?_
      refine rk_l (run_v (As := [.int (nI b0)]) (rest := [.int (nI (T 8 b0)), .ref (ad 26)]) (b := (ad 17)) hx hb hml hown hO.2 (c_X4_branchAddress l D y ad cap I J hT hW0 hnM hJ (b0 := b0) hb0) k_X4_branchAddress ml_X4_111 ⟨rfl, rfl⟩ ⟨Nat.le_of_ble_eq_true rfl, Nat.le_of_ble_eq_true rfl⟩ (pre_VR hO hP (wd_17 y ad cap I J) rfl) rfl hl.1 rfl (Nat.le_of_ble_eq_true rfl) dX4_couldHelp_74 ⟨(Nat.zero_le _), (Nat.zero_le _)⟩) (fun r74 er74 => ?_)
      try dsimp only at er74
      obtain rfl : r74 = (lN (braA T (cnt M) b0)) := by
        exact er74
      refine lv_lload hx hb dX4_couldHelp_77 (lv_at hl 0 rfl) ?_
      refine rk_i (run_vn (As := [.int (nI (T 8 b0)), .long (lN (braA T (cnt M) b0)), .long (lN (pE T (cnt M) s0))]) (rest := []) (b := (ad 26)) hx hb hml hown hO.2 (c_X2_reaches l D y (wd_26 y ad cap I J) (wd_27 y ad cap I J) (wd_28 y ad cap I J) (k0 := T 8 b0) x6 (hT.2.2.2.2 _ x6).1 (hT.2.2.2.2 _ x6).2 (wK _ x6).1 x7 (wK _ x6).2 (by have := braA_le hW0 hnM hb0; omega) (by have := pE_le hW0 hnM hs0; omega)) k_X2_reaches mn_X4_157 ⟨rfl, rfl⟩ ⟨Nat.le_of_ble_eq_true rfl, Nat.le_of_ble_eq_true rfl⟩ (pre_VR hO hP (wd_26 y ad cap I J) rfl) rfl hl.1 rfl (Nat.le_of_ble_eq_true rfl) dX4_couldHelp_79 ⟨(Nat.zero_le _), (Nat.zero_le _)⟩) (fun r79 er79 => ?_)
      try dsimp only at er79
      refine lv_if_eq (tgt := 116) hx hb dX4_couldHelp_82 (by decide) (fun c82 => ?_) (fun c82 => ?_)
      · skip
        have c82 := if01_z er79 c82
        refine lv_iconst (v := 0) hx hb dX4_couldHelp_116 (by decide) ?_
        refine W.zret (v := 0) hx hb hr (by decide) (fun t ht hW => ⟨_, rfl, ?_, ht⟩) (fun _ h => nomatch h) dX4_couldHelp_117
        have hT3 : T 3 s0 ≠ 0 := fun h9 => c25 ((nI_z (by omega)).mpr h9)
        have hnb : inB M s0 (T 9 b0) = false := fnd_none.mp (has_none (by simp only [List.length_append]; omega) c37)
        first | (simp [couB, hT3, hnb, c82, c109]; done) | (simp [couB, hT3, hnb, c82]; done)
      · skip
        have c82 := if01_n er79 c82
        refine lv_aload_n hx hb dX4_couldHelp_85 rfl (lv_at hl 2 rfl) ?_
        refine va_get (D := D) (T := TX4) (N := 9) hx hb hts jnX4 hown hK hP 17 (wd_17 y ad cap I J) rfl 0 (by decide) (hts _ fl_X4_12) (fun _ h9 => h9) rfl dX4_couldHelp_86 ?_
        refine va_getN (D := D) (T := TX7) (N := 8) hx hb hts jnX7 hown hK hP 18 (wd_18 y ad cap I J) rfl 2 (by decide) (hts _ fn_X4_150) (fun _ h9 => h9) rfl dX4_couldHelp_89 ?_
        refine lv_aload_n hx hb dX4_couldHelp_92 rfl (lv_at hl 2 rfl) ?_
        refine va_get (D := D) (T := TX4) (N := 9) hx hb hts jnX4 hown hK hP 17 (wd_17 y ad cap I J) rfl 0 (by decide) (hts _ fl_X4_12) (fun _ h9 => h9) rfl dX4_couldHelp_93 ?_
        refine va_getN (D := D) (T := TX7) (N := 8) hx hb hts jnX7 hown hK hP 18 (wd_18 y ad cap I J) rfl 7 (by decide) (hts _ fn_X4_163) (fun _ h9 => h9) rfl dX4_couldHelp_96 ?_
        refine lv_topi (fun v96 ev96 => ?_)
        obtain rfl : v96 = (nI (T 0 7)) := by
          rw [ev96]; exact hT.1.2.2.2.2.2.2.2 htz
        refine lv_lload hx hb dX4_couldHelp_99 (lv_at hl 0 rfl) ?_
        refine lv_aload_n hx hb dX4_couldHelp_101 rfl (lv_at hl 2 rfl) ?_
        refine lv_iload_n hx hb dX4_couldHelp_102 rfl (lv_at hl 1 rfl) ?_
        refine rk_l (run_v (As := [.int (nI (T 9 b0))]) (rest := [.long (lN (pE T (cnt M) s0)), .int (nI (T 0 7)), .ref (ad 26)]) (b := (ad 17)) hx hb hml hown hO.2 (c_X4_labelAddress l D y ad cap I J hT hW0 hnM hJ (l0 := T 9 b0) x8) k_X4_labelAddress ml_X4_166 ⟨rfl, rfl⟩ ⟨Nat.le_of_ble_eq_true rfl, Nat.le_of_ble_eq_true rfl⟩ (pre_VR hO hP (wd_17 y ad cap I J) rfl) rfl hl.1 rfl (Nat.le_of_ble_eq_true rfl) dX4_couldHelp_103 ⟨(Nat.zero_le _), (Nat.zero_le _)⟩) (fun r103 er103 => ?_)
        try dsimp only at er103
        obtain rfl : r103 = (lN (labA T (cnt M) (T 9 b0))) := by
          exact er103
        refine rk_i (run_vn (As := [.int (nI (T 0 7)), .long (lN (pE T (cnt M) s0)), .long (lN (labA T (cnt M) (T 9 b0)))]) (rest := []) (b := (ad 26)) hx hb hml hown hO.2 (c_X2_reaches l D y (wd_26 y ad cap I J) (wd_27 y ad cap I J) (wd_28 y ad cap I J) (k0 := T 0 7) (wTk htz).1 (hT.2.2.2.2 _ (wTk htz).1).1 (hT.2.2.2.2 _ (wTk htz).1).2 (wK _ (wTk htz).1).1 (wTk htz).2 (wK _ (wTk htz).1).2 (by have := pE_le hW0 hnM hs0; omega) (by have := labA_le hW0 hnM x8; omega)) k_X2_reaches mn_X4_157 ⟨rfl, rfl⟩ ⟨Nat.le_of_ble_eq_true rfl, Nat.le_of_ble_eq_true rfl⟩ (pre_VR hO hP (wd_26 y ad cap I J) rfl) rfl hl.1 rfl (Nat.le_of_ble_eq_true rfl) dX4_couldHelp_106 ⟨(Nat.zero_le _), (Nat.zero_le _)⟩) (fun r106 er106 => ?_)
        try dsimp only at er106
        refine lv_if_eq (tgt := 116) hx hb dX4_couldHelp_109 (by decide) (fun c109 => ?_) (fun c109 => ?_)
        · skip
          have c109 := if01_z er106 c109
          refine lv_iconst (v := 0) hx hb dX4_couldHelp_116 (by decide) ?_
          refine W.zret (v := 0) hx hb hr (by decide) (fun t ht hW => ⟨_, rfl, ?_, ht⟩) (fun _ h => nomatch h) dX4_couldHelp_117
          have hT3 : T 3 s0 ≠ 0 := fun h9 => c25 ((nI_z (by omega)).mpr h9)
          have hnb : inB M s0 (T 9 b0) = false := fnd_none.mp (has_none (by simp only [List.length_append]; omega) c37)
          first | (simp [couB, hT3, hnb, c82, c109]; done) | (simp [couB, hT3, hnb, c82]; done)
        · skip
          have c109 := if01_n er106 c109
          refine lv_iconst (v := 1) hx hb dX4_couldHelp_112 (by decide) ?_
          refine lv_goto (tgt := 117) hx hb dX4_couldHelp_113 (by decide) ?_
          refine W.zret (v := 1) hx hb hr (by decide) (fun t ht hW => ⟨_, rfl, ?_, ht⟩) (fun _ h => nomatch h) dX4_couldHelp_117
          have hT3 : T 3 s0 ≠ 0 := fun h9 => c25 ((nI_z (by omega)).mpr h9)
          have hnb : inB M s0 (T 9 b0) = false := fnd_none.mp (has_none (by simp only [List.length_append]; omega) c37)
          first | (simp [couB, hT3, hnb, c82, c109]; done) | (simp [couB, hT3, hnb, c82]; done)
    · skip
      have c37 := if01_n er34 c37
      refine lv_iconst (v := 0) hx hb dX4_couldHelp_40 (by decide) ?_
      refine W.zret (v := 0) hx hb hr (by decide) (fun t ht hW => ⟨_, rfl, ?_, ht⟩) (fun _ h => nomatch h) dX4_couldHelp_41
      first | (have h0 := (nI_z (by omega)).mp c25; simp [couB, h0]; done) | (obtain ⟨t, h1, _⟩ := has_some (by simp only [List.length_append]; omega) c37; have h2 := inB_fnd.mpr ⟨t, h1⟩; simp [couB, h2]; done)
set_option maxHeartbeats 4000000 in
set_option maxRecDepth 100000 in
theorem c_X4_nearestThunk (l : Launch) (D : va_G) (y : Nat → ClassId) (ad : Nat → Nat) (cap : Nat → Nat) (I : Nat → Nat → Int32) (J : Nat → Nat → Int64) {T : Nat → Nat → Nat} {M F : List Th} (hT : RT18 I T) (hW : WF T) (hM : (M ++ F).length ≤ 2400) (hTW : TW T (M ++ F)) (hJ : ∀ s, s < T 0 0 → J 35 s = lN (sA T (cnt M) s) ∧ J 36 s = lN (pS T (cnt M) s) ∧ J 37 s = lN (pE T (cnt M) s)) (hTH : TH I J T (cap 0) M F) (hPL : PL J T M) (htz0 : 0 < M.length → 0 < T 0 5) {b0 : Nat} (hb0 : b0 < T 0 2) : Met l yX4_nearestThunk [.code yX4_nearestThunk cX4_nearestThunk 12 (some .int)] ({ frames := 3, cells := 0, slots := 0, locals := 76 }) (va_Pc [.ref (ad 17), .int (nI b0)] (PR D y (Wd y ad cap I J))) (vp_Si (fun r => r = oI (bst T M b0 (T 0 0)))) 0 0 (fun _ => False) := by
  refine Met.ofW (cc := cX4_nearestThunk) (maxL := 12) (ret := (some .int)) (by decide) rfl ?_
  intro p e s m args below meth c s₁ B hml hv
  obtain ⟨rfl, hP, hO⟩ := hv
  have hx := B.exec
  have hb := B.bytes
  have hr := B.returns
  have hown : s.vm.findClass RX4 = some m.cls := findClass_of_methodNamed B.named
  have hlocks := B.notSynchronized
  have hK := hO.1
  have hts : ∀ w ∈ lw_E, w.before ([.ref (ad 17), .int (nI b0)] : List Value).toArray s = true := fun w h => hO.2 w h _
  clear B
  have hl := lv_entry ([.ref (ad 17), .int (nI b0)]) (n := 12) (Nat.le_of_ble_eq_true rfl)
  rw [lg_entry_eq]
  generalize (lg_sl ([.ref (ad 17), .int (nI b0)]) ++ List.replicate (12 - (lg_sl ([.ref (ad 17), .int (nI b0)])).length) Slot.unset).toArray = ls at hl ⊢
  have hl : lv_has ls 12 [(0, .ref (ad 17)), (1, .int (nI b0))] := hl
  have hW0 := hW
  obtain ⟨⟨w1, w2, w3, w4, w5, w6, w7⟩, wS, wL, wB, wK, wTk, wT0⟩ := hW
  obtain ⟨x1, x2, x6, x7, x8⟩ := wB b0 hb0
  obtain ⟨x3, x4, x5⟩ := wS _ x1
  have hnM : ∀ s, cnt M s ≤ 2400 := fun s => by have := cnt_le M s; rw [List.length_append] at hM; omega
  have hlen := hM
  rw [List.length_append] at hlen
  refine lv_aload_n hx hb dX4_nearestThunk_0 rfl (lv_at hl 0 rfl) ?_
  refine va_get (D := D) (T := TX4) (N := 9) hx hb hts jnX4 hown hK hP 17 (wd_17 y ad cap I J) rfl 0 (by decide) (hts _ fl_X4_12) (fun _ h9 => h9) rfl dX4_nearestThunk_1 ?_
  refine va_getN (D := D) (T := TX7) (N := 8) hx hb hts jnX7 hown hK hP 18 (wd_18 y ad cap I J) rfl 3 (by decide) (hts _ fn_X4_85) (fun _ h9 => h9) rfl dX4_nearestThunk_4 ?_
  refine va_getN (D := D) (T := TX1) (N := 5) hx hb hts jnX1 hown hK hP 29 (wd_29 y ad cap I J) rfl 4 (by decide) (hts _ fn_X4_108) (fun _ h9 => h9) rfl dX4_nearestThunk_7 ?_
  refine lv_iload_n hx hb dX4_nearestThunk_10 rfl (lv_at hl 1 rfl) ?_
  refine va_iald (D := D) hx hb hK hP 33 0 (wd_33 y ad cap I J) rfl (vp_in_nI (by omega) (by omega)) dX4_nearestThunk_11 ?_
  rw [nI_clamp (n := b0) (by omega)]
  refine lv_topi (fun v11 ev11 => ?_)
  obtain rfl : v11 = (nI (T 9 b0)) := by
    rw [ev11]; exact (hT.2.2.2.1 _ (by omega)).2.2.2
  refine lv_istore_n (lv' := [(2, .int (nI (T 9 b0))), (0, .ref (ad 17)), (1, .int (nI b0))]) hx hb dX4_nearestThunk_12 rfl hl (by decide) rfl (fun ls hl => ?_)
  refine lv_aload_n hx hb dX4_nearestThunk_13 rfl (lv_at hl 1 rfl) ?_
  refine lv_iload_n hx hb dX4_nearestThunk_14 rfl (lv_at hl 2 rfl) ?_
  refine rk_l (run_v (As := [.int (nI b0)]) (rest := []) (b := (ad 17)) hx hb hml hown hO.2 (c_X4_branchAddress l D y ad cap I J hT hW0 hnM hJ (b0 := b0) hb0) k_X4_branchAddress ml_X4_111 ⟨rfl, rfl⟩ ⟨Nat.le_of_ble_eq_true rfl, Nat.le_of_ble_eq_true rfl⟩ (pre_VR hO hP (wd_17 y ad cap I J) rfl) rfl hl.1 rfl (Nat.le_of_ble_eq_true rfl) dX4_nearestThunk_15 ⟨(Nat.zero_le _), (Nat.zero_le _)⟩) (fun r15 er15 => ?_)
  try dsimp only at er15
  obtain rfl : r15 = (lN (braA T (cnt M) b0)) := by
    exact er15
  refine lv_lstore_n (lv' := [(3, .long (lN (braA T (cnt M) b0))), (2, .int (nI (T 9 b0))), (0, .ref (ad 17)), (1, .int (nI b0))]) hx hb dX4_nearestThunk_18 rfl hl (by decide) rfl (fun ls hl => ?_)
  refine lv_iconst (v := (-1)) hx hb dX4_nearestThunk_19 (by decide) ?_
  refine lv_istore (lv' := [(5, .int (-1)), (3, .long (lN (braA T (cnt M) b0))), (2, .int (nI (T 9 b0))), (0, .ref (ad 17)), (1, .int (nI b0))]) hx hb dX4_nearestThunk_20 hl (by decide) rfl (fun ls hl => ?_)
  refine lv_lconst (v := 0) hx hb dX4_nearestThunk_22 (by decide) ?_
  refine lv_lstore (lv' := [(6, .long 0), (5, .int (-1)), (3, .long (lN (braA T (cnt M) b0))), (2, .int (nI (T 9 b0))), (0, .ref (ad 17)), (1, .int (nI b0))]) hx hb dX4_nearestThunk_23 hl (by decide) rfl (fun ls hl => ?_)
  refine lv_iconst (v := 0) hx hb dX4_nearestThunk_25 (by decide) ?_
  refine lv_istore (lv' := [(8, .int 0), (6, .long 0), (5, .int (-1)), (3, .long (lN (braA T (cnt M) b0))), (2, .int (nI (T 9 b0))), (0, .ref (ad 17)), (1, .int (nI b0))]) hx hb dX4_nearestThunk_26 hl (by decide) rfl (fun ls hl => ?_)
  have loop28 : ∀ (n28 : Nat) (k : Nat) (x6 : Int64) , (k ≤ T 0 0) → (∀ u, bst T M b0 k = some u → x6 = lN (dst (braA T (cnt M) b0) (plc T M u))) → T 0 0 + 1 ≤ k + n28 → ∀ ls : Array Slot, lv_has ls 12 [(0, .ref (ad 17)), (1, .int (nI b0)), (2, .int (nI (T 9 b0))), (3, .long (lN (braA T (cnt M) b0))), (5, .int (oI (bst T M b0 k))), (6, .long x6), (8, .int (nI k))] → W p l e (headSpec [.code yX4_nearestThunk cX4_nearestThunk 12 (some .int)] ({ frames := 3, cells := 0, slots := 0, locals := 76 })).room s m ([.ref (ad 17), .int (nI b0)] : List Value).toArray below meth c s.heap [] 0 0 (MQ below (vp_Si (fun r => r = oI (bst T M b0 (T 0 0)))) ([.ref (ad 17), .int (nI b0)] : List Value).toArray s 0 0 (fun _ => False)) (F0 m 28 ls []) := by
    intro n28
    induction n28 with
    | zero =>
      intro k x6 hk h6 hmeas
      exact absurd hmeas (by omega)
    | succ n28 ih28 =>
      intro k x6 hk h6 hmeas ls hl
      refine lv_iload hx hb dX4_nearestThunk_28 (lv_at hl 6 rfl) ?_
      refine lv_aload_n hx hb dX4_nearestThunk_30 rfl (lv_at hl 0 rfl) ?_
      refine va_get (D := D) (T := TX4) (N := 9) hx hb hts jnX4 hown hK hP 17 (wd_17 y ad cap I J) rfl 0 (by decide) (hts _ fl_X4_12) (fun _ h9 => h9) rfl dX4_nearestThunk_31 ?_
      refine va_getN (D := D) (T := TX7) (N := 8) hx hb hts jnX7 hown hK hP 18 (wd_18 y ad cap I J) rfl 0 (by decide) (hts _ fn_X4_115) (fun _ h9 => h9) rfl dX4_nearestThunk_34 ?_
      refine va_getN (D := D) (T := TX5) (N := 5) hx hb hts jnX5 hown hK hP 19 (wd_19 y ad cap I J) rfl 0 (by decide) (hts _ fn_X4_119) (fun _ h9 => h9) rfl dX4_nearestThunk_37 ?_
      refine lv_topi (fun v37 ev37 => ?_)
      obtain rfl : v37 = (nI (T 0 0)) := by
        rw [ev37]; exact hT.1.1
      refine lv_icmp_ge (tgt := 125) hx hb dX4_nearestThunk_40 (by decide) (fun c40 => ?_) (fun c40 => ?_)
      · skip
        have c40 := (nI_leI (a := (T 0 0)) (b := k) (by omega) (by omega)).mp c40
        refine lv_iload hx hb dX4_nearestThunk_125 (lv_at hl 4 rfl) ?_
        refine W.iret (v := (oI (bst T M b0 k))) hx hb hr (fun t ht hW => ⟨_, rfl, ?_, ht⟩) (fun _ h => nomatch h) dX4_nearestThunk_127
        have : k = T 0 0 := by omega
        rw [this]
      · skip
        have c40 := mt (nI_leI (a := (T 0 0)) (b := k) (by omega) (by omega)).mpr c40
        refine lv_aload_n hx hb dX4_nearestThunk_43 rfl (lv_at hl 0 rfl) ?_
        refine va_get (D := D) (T := TX4) (N := 9) hx hb hts jnX4 hown hK hP 17 (wd_17 y ad cap I J) rfl 2 (by decide) (hts _ fl_X4_28) (fun _ h9 => h9) rfl dX4_nearestThunk_44 ?_
        refine lv_iload hx hb dX4_nearestThunk_47 (lv_at hl 6 rfl) ?_
        refine lv_iload_n hx hb dX4_nearestThunk_49 rfl (lv_at hl 2 rfl) ?_
        refine rk_i (run_vn (As := [.int (nI k), .int (nI (T 9 b0))]) (rest := []) (b := (ad 38)) hx hb hml hown hO.2 (c_X6_numberOf l D y (wd_38 y ad cap I J) (wd_47 y ad cap I J) (s0 := k) (l0 := T 9 b0) (by omega) (by omega)) k_X6_numberOf mn_X4_169 ⟨rfl, rfl⟩ ⟨Nat.le_of_ble_eq_true rfl, Nat.le_of_ble_eq_true rfl⟩ (pre_VR hO hP (wd_38 y ad cap I J) rfl) rfl hl.1 rfl (Nat.le_of_ble_eq_true rfl) dX4_nearestThunk_50 ⟨(Nat.zero_le _), (Nat.zero_le _)⟩) (fun r50 er50 => ?_)
        try dsimp only at er50
        obtain rfl : r50 = (oI (fnd (M ++ F) k (T 9 b0))) := by
          rw [er50]; exact hTH.2.2.2.2 _ _ (by omega) (by omega)
        refine lv_istore (lv' := [(9, .int (oI (fnd (M ++ F) k (T 9 b0)))), (0, .ref (ad 17)), (1, .int (nI b0)), (2, .int (nI (T 9 b0))), (3, .long (lN (braA T (cnt M) b0))), (5, .int (oI (bst T M b0 k))), (6, .long x6), (8, .int (nI k))]) hx hb dX4_nearestThunk_53 hl (by decide) rfl (fun ls hl => ?_)
        refine lv_aload_n hx hb dX4_nearestThunk_55 rfl (lv_at hl 1 rfl) ?_
        refine va_get (D := D) (T := TX4) (N := 9) hx hb hts jnX4 hown hK hP 17 (wd_17 y ad cap I J) rfl 2 (by decide) (hts _ fl_X4_28) (fun _ h9 => h9) rfl dX4_nearestThunk_56 ?_
        refine lv_iload hx hb dX4_nearestThunk_59 (lv_at hl 0 rfl) ?_
        refine rk_i (run_vn (As := [.int (oI (fnd (M ++ F) k (T 9 b0)))]) (rest := []) (b := (ad 38)) hx hb hml hown hO.2 (c_X6_has l D y (wd_38 y ad cap I J) (oI (fnd (M ++ F) k (T 9 b0)))) k_X6_has mn_X4_173 ⟨rfl, rfl⟩ ⟨Nat.le_of_ble_eq_true rfl, Nat.le_of_ble_eq_true rfl⟩ (pre_VR hO hP (wd_38 y ad cap I J) rfl) rfl hl.1 rfl (Nat.le_of_ble_eq_true rfl) dX4_nearestThunk_61 ⟨(Nat.zero_le _), (Nat.zero_le _)⟩) (fun r61 er61 => ?_)
        try dsimp only at er61
        rw [hTH.1.1] at er61
        refine lv_if_eq (tgt := 119) hx hb dX4_nearestThunk_64 (by decide) (fun c64 => ?_) (fun c64 => ?_)
        · skip
          have c64 := if01_z er61 c64
          have hf := has_none (by simp only [List.length_append]; omega) c64
          have eB := bst_none hf
          refine lv_iinc (v := (nI (k + 1))) (lv' := [(8, .int (nI (k + 1))), (9, .int (oI (fnd (M ++ F) k (T 9 b0)))), (0, .ref (ad 17)), (1, .int (nI b0)), (2, .int (nI (T 9 b0))), (3, .long (lN (braA T (cnt M) b0))), (5, .int (oI (bst T M b0 k))), (6, .long x6)]) hx hb dX4_nearestThunk_119 hl (k := 7) rfl (nI_1 _) (by decide) rfl (fun ls hl => ?_)
          refine lv_goto (tgt := 28) hx hb dX4_nearestThunk_122 (by decide) ?_
          exact ih28 (k + 1) x6 (by omega) (fun v hv => by rw [eB] at hv; first | exact h6 v hv | (cases hv; rfl) | (rw [hu] at hv; cases hv; rfl)) (by omega) ls (by rw [eB]; exact lv_sub hl [2, 3, 4, 5, 6, 7, 0] rfl)
        · skip
          have c64 := if01_n er61 c64
          obtain ⟨t, hf, ht, eT⟩ := has_some (by simp only [List.length_append]; omega) c64
          rw [eT] at hl
          have htz := htz0 (by omega)
          refine lv_aload_n hx hb dX4_nearestThunk_67 rfl (lv_at hl 1 rfl) ?_
          refine lv_iload hx hb dX4_nearestThunk_68 (lv_at hl 0 rfl) ?_
          refine lv_iload_n hx hb dX4_nearestThunk_70 rfl (lv_at hl 2 rfl) ?_
          refine rk_i (run_v (As := [.int (nI t), .int (nI b0)]) (rest := []) (b := (ad 17)) hx hb hml hown hO.2 (c_X4_doesHelp l D y ad cap I J hT hW0 hM hTW hJ hTH hPL htz (t0 := t) (b0 := b0) ht hb0) k_X4_doesHelp ml_X4_176 ⟨rfl, rfl⟩ ⟨Nat.le_of_ble_eq_true rfl, Nat.le_of_ble_eq_true rfl⟩ (pre_VR hO hP (wd_17 y ad cap I J) rfl) rfl hl.1 rfl (Nat.le_of_ble_eq_true rfl) dX4_nearestThunk_71 ⟨(Nat.zero_le _), (Nat.zero_le _)⟩) (fun r71 er71 => ?_)
          try dsimp only at er71
          refine lv_if_ne (tgt := 80) hx hb dX4_nearestThunk_74 (by decide) (fun c74 => ?_) (fun c74 => ?_)
          · skip
            have c74 := if01_n er71 c74
            have hpl := plc_le hW0 (by omega) (TW_left hTW) ht
            have hbr := braA_le hW0 hnM hb0
            refine lv_aload_n hx hb dX4_nearestThunk_80 rfl (lv_at hl 1 rfl) ?_
            refine va_get (D := D) (T := TX4) (N := 9) hx hb hts jnX4 hown hK hP 17 (wd_17 y ad cap I J) rfl 2 (by decide) (hts _ fl_X4_28) (fun _ h9 => h9) rfl dX4_nearestThunk_81 ?_
            refine va_getN (D := D) (T := TX6) (N := 11) hx hb hts jnX6 hown hK hP 38 (wd_38 y ad cap I J) rfl 8 (by decide) (hts _ fn_X4_179) (fun _ h9 => h9) rfl dX4_nearestThunk_84 ?_
            refine lv_iload hx hb dX4_nearestThunk_87 (lv_at hl 0 rfl) ?_
            refine va_lald (D := D) hx hb hK hP 45 1 (wd_45 y ad cap I J) rfl (vp_in_nI (by have := hTH.1.2.2.1; rw [List.length_append] at this; omega) (by have := hTH.1.2.2.2; omega)) dX4_nearestThunk_89 ?_
            rw [nI_clamp (n := t) (by omega)]
            refine lv_topl (fun v89 ev89 => ?_)
            obtain rfl : v89 = (lN (plc T M t)) := by
              rw [ev89]; exact hPL _ (by omega)
            refine lv_lload_n hx hb dX4_nearestThunk_90 rfl (lv_at hl 4 rfl) ?_
            refine lv_lsub hx hb dX4_nearestThunk_91 ?_
            refine lv_topl (fun v91 ev91 => ?_)
            refine va_mabs_long hx hb (by rw [hml]; exact hl.1.symm) hown (hts _ ml_X4_133) (hts _ sc_J9_abs_067f4) (hts _ ini_J9) (hts _ cd_J9_abs_067f4) (Nat.le_of_ble_eq_true rfl) (Nat.le_of_ble_eq_true rfl) (Nat.zero_le _) (Nat.zero_le _) dX4_nearestThunk_92 ?_
            refine lv_topl (fun v92 ev92 => ?_)
            obtain rfl : v92 = (lN (dst (braA T (cnt M) b0) (plc T M t))) := by
              rw [ev92]; exact abs_dst (by omega) (by omega) ev91
            refine lv_lstore (lv' := [(10, .long (lN (dst (braA T (cnt M) b0) (plc T M t)))), (9, .int (nI t)), (0, .ref (ad 17)), (1, .int (nI b0)), (2, .int (nI (T 9 b0))), (3, .long (lN (braA T (cnt M) b0))), (5, .int (oI (bst T M b0 k))), (6, .long x6), (8, .int (nI k))]) hx hb dX4_nearestThunk_95 hl (by decide) rfl (fun ls hl => ?_)
            refine lv_iload hx hb dX4_nearestThunk_97 (lv_at hl 6 rfl) ?_
            refine lv_iconst (v := (-1)) hx hb dX4_nearestThunk_99 (by decide) ?_
            refine lv_icmp_eq (tgt := 111) hx hb dX4_nearestThunk_100 (by decide) (fun c100 => ?_) (fun c100 => ?_)
            · skip
              have hnear := (oI_neg (fun u hu => by have := bst_lt k u hu; omega)).mp c100
              have eB := bst_first hf c74 hnear
              refine lv_iload hx hb dX4_nearestThunk_111 (lv_at hl 1 rfl) ?_
              refine lv_istore (lv' := [(5, .int (nI t)), (10, .long (lN (dst (braA T (cnt M) b0) (plc T M t)))), (9, .int (nI t)), (0, .ref (ad 17)), (1, .int (nI b0)), (2, .int (nI (T 9 b0))), (3, .long (lN (braA T (cnt M) b0))), (6, .long x6), (8, .int (nI k))]) hx hb dX4_nearestThunk_113 hl (by decide) rfl (fun ls hl => ?_)
              refine lv_lload hx hb dX4_nearestThunk_115 (lv_at hl 1 rfl) ?_
              refine lv_lstore (lv' := [(6, .long (lN (dst (braA T (cnt M) b0) (plc T M t)))), (5, .int (nI t)), (10, .long (lN (dst (braA T (cnt M) b0) (plc T M t)))), (9, .int (nI t)), (0, .ref (ad 17)), (1, .int (nI b0)), (2, .int (nI (T 9 b0))), (3, .long (lN (braA T (cnt M) b0))), (8, .int (nI k))]) hx hb dX4_nearestThunk_117 hl (by decide) rfl (fun ls hl => ?_)
              refine lv_iinc (v := (nI (k + 1))) (lv' := [(8, .int (nI (k + 1))), (6, .long (lN (dst (braA T (cnt M) b0) (plc T M t)))), (5, .int (nI t)), (10, .long (lN (dst (braA T (cnt M) b0) (plc T M t)))), (9, .int (nI t)), (0, .ref (ad 17)), (1, .int (nI b0)), (2, .int (nI (T 9 b0))), (3, .long (lN (braA T (cnt M) b0)))]) hx hb dX4_nearestThunk_119 hl (k := 8) rfl (nI_1 _) (by decide) rfl (fun ls hl => ?_)
              refine lv_goto (tgt := 28) hx hb dX4_nearestThunk_122 (by decide) ?_
              exact ih28 (k + 1) (lN (dst (braA T (cnt M) b0) (plc T M t))) (by omega) (fun v hv => by rw [eB] at hv; first | exact h6 v hv | (cases hv; rfl) | (rw [hu] at hv; cases hv; rfl)) (by omega) ls (by rw [eB]; exact lv_sub hl [5, 6, 7, 8, 2, 1, 0] rfl)
            · skip
              obtain ⟨u, hu⟩ := Option.ne_none_iff_exists'.mp (fun h9 => c100 ((oI_neg (fun u hu => by have := bst_lt k u hu; omega)).mpr h9))
              obtain rfl := h6 u hu
              have hpu := plc_le hW0 (by omega) (TW_left hTW) (bst_lt k u hu)
              have hd1 : dst (braA T (cnt M) b0) (plc T M t) < 2 ^ 40 := by unfold dst; split <;> omega
              have hd2 : dst (braA T (cnt M) b0) (plc T M u) < 2 ^ 40 := by unfold dst; split <;> omega
              refine lv_lload hx hb dX4_nearestThunk_103 (lv_at hl 0 rfl) ?_
              refine lv_lload hx hb dX4_nearestThunk_105 (lv_at hl 7 rfl) ?_
              refine W.lcmp hx hb dX4_nearestThunk_107 ?_
              refine lv_if_ge (tgt := 119) hx hb dX4_nearestThunk_108 (by decide) (fun c108 => ?_) (fun c108 => ?_)
              · skip
                have c108 := lc_ge.mp c108
                rw [pk_lLE (by omega) (by omega)] at c108
                have eB := bst_keep hf c74 hu (by omega)
                refine lv_iinc (v := (nI (k + 1))) (lv' := [(8, .int (nI (k + 1))), (10, .long (lN (dst (braA T (cnt M) b0) (plc T M t)))), (9, .int (nI t)), (0, .ref (ad 17)), (1, .int (nI b0)), (2, .int (nI (T 9 b0))), (3, .long (lN (braA T (cnt M) b0))), (5, .int (oI (bst T M b0 k))), (6, .long (lN (dst (braA T (cnt M) b0) (plc T M u))))]) hx hb dX4_nearestThunk_119 hl (k := 8) rfl (nI_1 _) (by decide) rfl (fun ls hl => ?_)
                refine lv_goto (tgt := 28) hx hb dX4_nearestThunk_122 (by decide) ?_
                exact ih28 (k + 1) (lN (dst (braA T (cnt M) b0) (plc T M u))) (by omega) (fun v hv => by rw [eB] at hv; first | exact h6 v hv | (cases hv; rfl) | (rw [hu] at hv; cases hv; rfl)) (by omega) ls (by rw [eB]; exact lv_sub hl [3, 4, 5, 6, 7, 8, 0] rfl)
              · skip
                have c108 := mt lc_ge.mpr c108
                rw [pk_lLE (by omega) (by omega)] at c108
                have eB := bst_less hf c74 hu (by omega)
                refine lv_iload hx hb dX4_nearestThunk_111 (lv_at hl 1 rfl) ?_
                refine lv_istore (lv' := [(5, .int (nI t)), (10, .long (lN (dst (braA T (cnt M) b0) (plc T M t)))), (9, .int (nI t)), (0, .ref (ad 17)), (1, .int (nI b0)), (2, .int (nI (T 9 b0))), (3, .long (lN (braA T (cnt M) b0))), (6, .long (lN (dst (braA T (cnt M) b0) (plc T M u)))), (8, .int (nI k))]) hx hb dX4_nearestThunk_113 hl (by decide) rfl (fun ls hl => ?_)
                refine lv_lload hx hb dX4_nearestThunk_115 (lv_at hl 1 rfl) ?_
                refine lv_lstore (lv' := [(6, .long (lN (dst (braA T (cnt M) b0) (plc T M t)))), (5, .int (nI t)), (10, .long (lN (dst (braA T (cnt M) b0) (plc T M t)))), (9, .int (nI t)), (0, .ref (ad 17)), (1, .int (nI b0)), (2, .int (nI (T 9 b0))), (3, .long (lN (braA T (cnt M) b0))), (8, .int (nI k))]) hx hb dX4_nearestThunk_117 hl (by decide) rfl (fun ls hl => ?_)
                refine lv_iinc (v := (nI (k + 1))) (lv' := [(8, .int (nI (k + 1))), (6, .long (lN (dst (braA T (cnt M) b0) (plc T M t)))), (5, .int (nI t)), (10, .long (lN (dst (braA T (cnt M) b0) (plc T M t)))), (9, .int (nI t)), (0, .ref (ad 17)), (1, .int (nI b0)), (2, .int (nI (T 9 b0))), (3, .long (lN (braA T (cnt M) b0)))]) hx hb dX4_nearestThunk_119 hl (k := 8) rfl (nI_1 _) (by decide) rfl (fun ls hl => ?_)
                refine lv_goto (tgt := 28) hx hb dX4_nearestThunk_122 (by decide) ?_
                exact ih28 (k + 1) (lN (dst (braA T (cnt M) b0) (plc T M t))) (by omega) (fun v hv => by rw [eB] at hv; first | exact h6 v hv | (cases hv; rfl) | (rw [hu] at hv; cases hv; rfl)) (by omega) ls (by rw [eB]; exact lv_sub hl [5, 6, 7, 8, 2, 1, 0] rfl)
          · skip
            have c74 := if01_z er71 c74
            have eB := bst_nohelp hf c74
            refine lv_goto (tgt := 119) hx hb dX4_nearestThunk_77 (by decide) ?_
            refine lv_iinc (v := (nI (k + 1))) (lv' := [(8, .int (nI (k + 1))), (9, .int (nI t)), (0, .ref (ad 17)), (1, .int (nI b0)), (2, .int (nI (T 9 b0))), (3, .long (lN (braA T (cnt M) b0))), (5, .int (oI (bst T M b0 k))), (6, .long x6)]) hx hb dX4_nearestThunk_119 hl (k := 7) rfl (nI_1 _) (by decide) rfl (fun ls hl => ?_)
            refine lv_goto (tgt := 28) hx hb dX4_nearestThunk_122 (by decide) ?_
            exact ih28 (k + 1) x6 (by omega) (fun v hv => by rw [eB] at hv; first | exact h6 v hv | (cases hv; rfl) | (rw [hu] at hv; cases hv; rfl)) (by omega) ls (by rw [eB]; exact lv_sub hl [2, 3, 4, 5, 6, 7, 0] rfl)
  exact loop28 (T 0 0 + 1) 0 0 (by omega) (fun u hu => by simp [bst, amin] at hu) (by omega) ls (by show lv_has ls _ [(0, .ref (ad 17)), (1, .int (nI b0)), (2, .int (nI (T 9 b0))), (3, .long (lN (braA T (cnt M) b0))), (5, .int (-1)), (6, .long 0), (8, .int 0)]; exact lv_sub hl [5, 6, 4, 3, 2, 1, 0] rfl)
