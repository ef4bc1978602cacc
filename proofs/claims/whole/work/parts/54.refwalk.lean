set_option maxHeartbeats 4000000 in
set_option maxRecDepth 100000 in
theorem c_X9_walk (l : Launch) (D : va_G) (y : Nat → ClassId) (ad : Nat → Nat) (cap : Nat → Nat) (I : Nat → Nat → Int32) (J : Nat → Nat → Int64) {TL : Nat → Nat → Nat} {M : List Th} {R : Nat} (hX : MLx I J TL M R) (hW : WF TL) (p1 : Int32) : Met l yX9_walk [.code yX9_walk cX9_walk 5 (some .long)] ({ frames := 2, cells := 0, slots := 0, locals := 51 }) (va_Pc [.ref (ad 55), .int p1] (PR D y (Wd y ad cap I J))) (vp_Sl (fun r => r = wkB TL M (ix (TL 0 2) p1))) 0 0 (fun _ => False) := by
  refine Met.ofW (cc := cX9_walk) (maxL := 5) (ret := (some .long)) (by decide) rfl ?_
  intro p e s m args below meth c s₁ B hml hv
  obtain ⟨rfl, hP, hO⟩ := hv
  have hx := B.exec
  have hb := B.bytes
  have hr := B.returns
  have hown : s.vm.findClass RX9 = some m.cls := findClass_of_methodNamed B.named
  have hlocks := B.notSynchronized
  have hK := hO.1
  have hts : ∀ w ∈ lw_E, w.before ([.ref (ad 55), .int p1] : List Value).toArray s = true := fun w h => hO.2 w h _
  clear B
  have hl := lv_entry ([.ref (ad 55), .int p1]) (n := 5) (Nat.le_of_ble_eq_true rfl)
  rw [lg_entry_eq]
  generalize (lg_sl ([.ref (ad 55), .int p1]) ++ List.replicate (5 - (lg_sl ([.ref (ad 55), .int p1])).length) Slot.unset).toArray = ls at hl ⊢
  have hl : lv_has ls 5 [(0, .ref (ad 55)), (1, .int p1)] := hl
  have hX0 := hX
  have hW9 := hW
  rcases hX with hX | hML
  · skip
    obtain ⟨m20, hz, rfl, rfl⟩ := hX
    refine lv_aload_n hx hb dX9_walk_0 rfl (lv_at hl 0 rfl) ?_
    refine lv_iconst (v := 0) hx hb dX9_walk_1 (by decide) ?_
    refine lv_iload_n hx hb dX9_walk_2 rfl (lv_at hl 1 rfl) ?_
    refine rk_i (run_v (As := [.int 0, .int p1]) (rest := []) (b := (ad 55)) hx hb hml hown hO.2 (c_X9_encoded l D y ad cap I J hX0 hW9 0 p1) k_X9_encoded ml_X9_228 ⟨rfl, rfl⟩ ⟨Nat.le_of_ble_eq_true rfl, Nat.le_of_ble_eq_true rfl⟩ (pre_VR hO hP (wd_55 y ad cap I J) rfl) rfl hl.1 rfl (Nat.le_of_ble_eq_true rfl) dX9_walk_3 ⟨(Nat.zero_le _), (Nat.zero_le _)⟩) (fun r3 er3 => ?_)
    try dsimp only at er3
    obtain rfl : r3 = (-1) := by
      rw [er3, e_un hz]
    
    refine lv_istore_n (lv' := [(2, .int (-1)), (0, .ref (ad 55)), (1, .int p1)]) hx hb dX9_walk_6 rfl hl (by decide) rfl (fun ls hl => ?_)
    refine lv_iload_n hx hb dX9_walk_7 rfl (lv_at hl 0 rfl) ?_
    refine lv_iconst (v := (-1)) hx hb dX9_walk_8 (by decide) ?_
    refine lv_icmp_ne (tgt := 16) hx hb dX9_walk_9 (by decide) (fun c9 => ?_) (fun c9 => ?_)
    · skip
      exact absurd c9 (by decide)
    · skip
      refine lv_ldc2 (v := (-9223372036854775808)) hx hb hown (hts _ kc_X9_219) dX9_walk_12 ?_
      refine W.lret (v := (-9223372036854775808)) hx hb hr (fun t ht hW => ⟨_, rfl, ?_, ht⟩) (fun _ h => nomatch h) dX9_walk_15
      rw [ix_z (hz 0 2)]
      rfl
  · skip
    have hML0 := hML
    obtain ⟨⟨m20, m21, m22, m23, m24, m25, m40, m41, m26⟩, ⟨hTWM, htz0⟩, m69, hK9, mB, mT, hA⟩ := hML
    have hW0 := hW
    obtain ⟨⟨w1, w2, w3, w4, w5, w6, w7⟩, wS, wL, wB, wK, wTk, wT0⟩ := hW
    have hlM : M.length ≤ 2400 := TW_len hW0 hTWM
    have hnM : ∀ s, cnt M s ≤ 2400 := fun s => Nat.le_trans (cnt_le M s) hlM
    refine lv_aload_n hx hb dX9_walk_0 rfl (lv_at hl 0 rfl) ?_
    refine lv_iconst (v := 0) hx hb dX9_walk_1 (by decide) ?_
    refine lv_iload_n hx hb dX9_walk_2 rfl (lv_at hl 1 rfl) ?_
    refine rk_i (run_v (As := [.int 0, .int p1]) (rest := []) (b := (ad 55)) hx hb hml hown hO.2 (c_X9_encoded l D y ad cap I J hX0 hW9 0 p1) k_X9_encoded ml_X9_228 ⟨rfl, rfl⟩ ⟨Nat.le_of_ble_eq_true rfl, Nat.le_of_ble_eq_true rfl⟩ (pre_VR hO hP (wd_55 y ad cap I J) rfl) rfl hl.1 rfl (Nat.le_of_ble_eq_true rfl) dX9_walk_3 ⟨(Nat.zero_le _), (Nat.zero_le _)⟩) (fun r3 er3 => ?_)
    try dsimp only at er3
    unfold qEnc at er3
    rw [if_pos rfl] at er3
    have hlt : ∀ c, (ix (TL 0 2) p1).bind (cdB TL M) = some c → ∃ b0, p1 = nI b0 ∧ b0 < TL 0 2 ∧ cdB TL M b0 = some c ∧ c < 2 ^ 30 := by
      intro c hc
      by_cases h9 : ¬ p1 < 0 ∧ ¬ nI (TL 0 2) ≤ p1
      · obtain ⟨b0, rfl, hb0⟩ := ix_ok (by omega) h9
        rw [ix_in (by omega) hb0] at hc
        exact ⟨b0, rfl, hb0, hc, cdB_lt hW0 hb0 hc⟩
      · rw [ix_no h9] at hc
        cases hc
    have hneg := oI_neg (o := (ix (TL 0 2) p1).bind (cdB TL M)) (fun c hc => by obtain ⟨_, _, _, _, h9⟩ := hlt c hc; omega)
    refine lv_istore_n (lv' := [(2, .int r3), (0, .ref (ad 55)), (1, .int p1)]) hx hb dX9_walk_6 rfl hl (by decide) rfl (fun ls hl => ?_)
    refine lv_iload_n hx hb dX9_walk_7 rfl (lv_at hl 0 rfl) ?_
    refine lv_iconst (v := (-1)) hx hb dX9_walk_8 (by decide) ?_
    refine lv_icmp_ne (tgt := 16) hx hb dX9_walk_9 (by decide) (fun c9 => ?_) (fun c9 => ?_)
    · skip
      rw [er3] at c9
      obtain ⟨cc0, hcc⟩ := Option.ne_none_iff_exists'.mp (fun h9 => c9 (hneg.mpr h9))
      obtain ⟨b0, rfl, hb0, hcd, hc30⟩ := hlt cc0 hcc
      rw [hcc] at er3
      simp only [oI] at er3
      obtain ⟨x1, x2, x6, x7, x8⟩ := wB b0 hb0
      obtain ⟨x3, x4, x5⟩ := wS _ x1
      have hbr := braA_le hW0 hnM hb0
      have hlb := labA_le hW0 hnM x8
      obtain ⟨wk1, wk2⟩ := wK _ x6
      by_cases hdr : dirB TL (cnt M) b0 = true
      · skip
        have hcd2 := hcd
        unfold cdB at hcd2
        rw [if_pos hdr] at hcd2
        obtain rfl := Option.some.inj hcd2
        subst er3
        have hwy0 : wyB TL M b0 = 0 := by unfold wyB; rw [if_pos hdr]
        refine lv_aload_n hx hb dX9_walk_16 rfl (lv_at hl 1 rfl) ?_
        refine lv_aload_n hx hb dX9_walk_17 rfl (lv_at hl 1 rfl) ?_
        refine va_get (D := D) (T := TX9) (N := 51) hx hb hts jnX9 hown hK hP 55 (wd_55 y ad cap I J) rfl 34 (by decide) (hts _ fl_X9_63) (fun _ h9 => h9) rfl dX9_walk_18 ?_
        refine lv_iload_n hx hb dX9_walk_21 rfl (lv_at hl 2 rfl) ?_
        refine va_iald (D := D) hx hb hK hP 73 0 (wd_73 y ad cap I J) rfl (vp_in_nI (by omega) (by omega)) dX9_walk_22 ?_
        rw [nI_clamp (n := b0) (by omega)]
        refine lv_topi (fun v22 ev22 => ?_)
        obtain rfl : v22 = (nI (TL 8 b0)) := by
          rw [ev22]; exact (mB _ (by omega)).1
        refine lv_aload_n hx hb dX9_walk_23 rfl (lv_at hl 1 rfl) ?_
        refine va_get (D := D) (T := TX9) (N := 51) hx hb hts jnX9 hown hK hP 55 (wd_55 y ad cap I J) rfl 33 (by decide) (hts _ fl_X9_60) (fun _ h9 => h9) rfl dX9_walk_24 ?_
        refine lv_iload_n hx hb dX9_walk_27 rfl (lv_at hl 2 rfl) ?_
        refine va_lald (D := D) hx hb hK hP 72 1 (wd_72 y ad cap I J) rfl (vp_in_nI (by omega) (by omega)) dX9_walk_28 ?_
        rw [nI_clamp (n := b0) (by omega)]
        refine lv_topl (fun v28 ev28 => ?_)
        obtain rfl : v28 = (lN (braA TL (cnt M) b0)) := by
          rw [ev28]; exact hA.2.2.1 _ (by omega)
        refine lv_iload_n hx hb dX9_walk_29 rfl (lv_at hl 0 rfl) ?_
        refine rk_l (run_v (As := [.int (nI (TL 8 b0)), .long (lN (braA TL (cnt M) b0)), .int (nI (cde (TL 10 (TL 8 b0)) (TL 11 (TL 8 b0)) (braA TL (cnt M) b0) (labA TL (cnt M) (TL 9 b0))))]) (rest := []) (b := (ad 55)) hx hb hml hown hO.2 (c_X9_goes l D y ad cap I J hK9 hW0 (k0 := TL 8 b0) (a0 := braA TL (cnt M) b0) (b0 := labA TL (cnt M) (TL 9 b0)) x6 x7 (by omega) (by omega) hdr) k_X9_goes ml_X9_231 ⟨rfl, rfl⟩ ⟨Nat.le_of_ble_eq_true rfl, Nat.le_of_ble_eq_true rfl⟩ (pre_VR hO hP (wd_55 y ad cap I J) rfl) rfl hl.1 rfl (Nat.le_of_ble_eq_true rfl) dX9_walk_30 ⟨(Nat.zero_le _), (Nat.zero_le _)⟩) (fun r30 er30 => ?_)
        try dsimp only at er30
        obtain rfl : r30 = (lN (labA TL (cnt M) (TL 9 b0))) := by
          exact er30
        refine lv_lstore_n (lv' := [(3, .long (lN (labA TL (cnt M) (TL 9 b0)))), (2, .int (nI (cde (TL 10 (TL 8 b0)) (TL 11 (TL 8 b0)) (braA TL (cnt M) b0) (labA TL (cnt M) (TL 9 b0))))), (0, .ref (ad 55)), (1, .int (nI b0))]) hx hb dX9_walk_33 rfl hl (by decide) rfl (fun ls hl => ?_)
        refine lv_aload_n hx hb dX9_walk_34 rfl (lv_at hl 2 rfl) ?_
        refine va_get (D := D) (T := TX9) (N := 51) hx hb hts jnX9 hown hK hP 55 (wd_55 y ad cap I J) rfl 36 (by decide) (hts _ fl_X9_69) (fun _ h9 => h9) rfl dX9_walk_35 ?_
        refine lv_iload_n hx hb dX9_walk_38 rfl (lv_at hl 3 rfl) ?_
        refine va_iald (D := D) hx hb hK hP 75 0 (wd_75 y ad cap I J) rfl (vp_in_nI (by omega) (by omega)) dX9_walk_39 ?_
        rw [nI_clamp (n := b0) (by omega)]
        refine lv_topi (fun v39 ev39 => ?_)
        obtain rfl : v39 = 0 := by
          rw [ev39, (mB _ hb0).2.2.1, hwy0]; rfl
        refine lv_if_ne (tgt := 47) hx hb dX9_walk_40 (by decide) (fun c40 => ?_) (fun c40 => ?_)
        · skip
          exact absurd c40 (by decide)
        · skip
          refine lv_lload_n hx hb dX9_walk_43 rfl (lv_at hl 0 rfl) ?_
          refine lv_goto (tgt := 67) hx hb dX9_walk_44 (by decide) ?_
          refine W.lret (v := (lN (labA TL (cnt M) (TL 9 b0)))) hx hb hr (fun t ht hW => ⟨_, rfl, ?_, ht⟩) (fun _ h => nomatch h) dX9_walk_67
          have hw2 : ¬ wyB TL M b0 = 2 := by omega
          rw [ix_in (by omega) hb0]
          simp only [wkB]
          rw [if_neg hw2]
      · skip
        have hcd2 := hcd
        unfold cdB at hcd2
        rw [if_neg hdr] at hcd2
        cases hbt : bst TL M b0 (TL 0 0) with
        | none =>
          rw [hbt] at hcd2
          cases hcd2
        | some t0 =>
          rw [hbt] at hcd2
          obtain rfl := Option.some.inj hcd2
          subst er3
          have hwy1 : wyB TL M b0 = 1 := by unfold wyB; rw [if_neg hdr, hbt]
          have hrt : rtB TL M b0 = some t0 := by unfold rtB; rw [if_neg hdr]; exact hbt
          have ht0 := bst_lt _ _ hbt
          have hpl := plc_le hW0 (by omega) hTWM ht0
          obtain ⟨hh1, hh2⟩ := help_split (bst_help _ _ hbt).1
          have htl := (bst_help _ _ hbt).2
          have htz := htz0 (by omega)
          obtain ⟨kk1, kk2⟩ := wTk htz
          have hlt0 := labA_le hW0 hnM (show (thA M t0).2.1 < TL 0 1 from (hTWM.1 t0 ht0).2.1)
          refine lv_aload_n hx hb dX9_walk_16 rfl (lv_at hl 1 rfl) ?_
          refine lv_aload_n hx hb dX9_walk_17 rfl (lv_at hl 1 rfl) ?_
          refine va_get (D := D) (T := TX9) (N := 51) hx hb hts jnX9 hown hK hP 55 (wd_55 y ad cap I J) rfl 34 (by decide) (hts _ fl_X9_63) (fun _ h9 => h9) rfl dX9_walk_18 ?_
          refine lv_iload_n hx hb dX9_walk_21 rfl (lv_at hl 2 rfl) ?_
          refine va_iald (D := D) hx hb hK hP 73 0 (wd_73 y ad cap I J) rfl (vp_in_nI (by omega) (by omega)) dX9_walk_22 ?_
          rw [nI_clamp (n := b0) (by omega)]
          refine lv_topi (fun v22 ev22 => ?_)
          obtain rfl : v22 = (nI (TL 8 b0)) := by
            rw [ev22]; exact (mB _ (by omega)).1
          refine lv_aload_n hx hb dX9_walk_23 rfl (lv_at hl 1 rfl) ?_
          refine va_get (D := D) (T := TX9) (N := 51) hx hb hts jnX9 hown hK hP 55 (wd_55 y ad cap I J) rfl 33 (by decide) (hts _ fl_X9_60) (fun _ h9 => h9) rfl dX9_walk_24 ?_
          refine lv_iload_n hx hb dX9_walk_27 rfl (lv_at hl 2 rfl) ?_
          refine va_lald (D := D) hx hb hK hP 72 1 (wd_72 y ad cap I J) rfl (vp_in_nI (by omega) (by omega)) dX9_walk_28 ?_
          rw [nI_clamp (n := b0) (by omega)]
          refine lv_topl (fun v28 ev28 => ?_)
          obtain rfl : v28 = (lN (braA TL (cnt M) b0)) := by
            rw [ev28]; exact hA.2.2.1 _ (by omega)
          refine lv_iload_n hx hb dX9_walk_29 rfl (lv_at hl 0 rfl) ?_
          refine rk_l (run_v (As := [.int (nI (TL 8 b0)), .long (lN (braA TL (cnt M) b0)), .int (nI (cde (TL 10 (TL 8 b0)) (TL 11 (TL 8 b0)) (braA TL (cnt M) b0) (plc TL M t0)))]) (rest := []) (b := (ad 55)) hx hb hml hown hO.2 (c_X9_goes l D y ad cap I J hK9 hW0 (k0 := TL 8 b0) (a0 := braA TL (cnt M) b0) (b0 := plc TL M t0) x6 x7 (by omega) (by omega) hh1) k_X9_goes ml_X9_231 ⟨rfl, rfl⟩ ⟨Nat.le_of_ble_eq_true rfl, Nat.le_of_ble_eq_true rfl⟩ (pre_VR hO hP (wd_55 y ad cap I J) rfl) rfl hl.1 rfl (Nat.le_of_ble_eq_true rfl) dX9_walk_30 ⟨(Nat.zero_le _), (Nat.zero_le _)⟩) (fun r30 er30 => ?_)
          try dsimp only at er30
          obtain rfl : r30 = (lN (plc TL M t0)) := by
            exact er30
          refine lv_lstore_n (lv' := [(3, .long (lN (plc TL M t0))), (2, .int (nI (cde (TL 10 (TL 8 b0)) (TL 11 (TL 8 b0)) (braA TL (cnt M) b0) (plc TL M t0)))), (0, .ref (ad 55)), (1, .int (nI b0))]) hx hb dX9_walk_33 rfl hl (by decide) rfl (fun ls hl => ?_)
          refine lv_aload_n hx hb dX9_walk_34 rfl (lv_at hl 2 rfl) ?_
          refine va_get (D := D) (T := TX9) (N := 51) hx hb hts jnX9 hown hK hP 55 (wd_55 y ad cap I J) rfl 36 (by decide) (hts _ fl_X9_69) (fun _ h9 => h9) rfl dX9_walk_35 ?_
          refine lv_iload_n hx hb dX9_walk_38 rfl (lv_at hl 3 rfl) ?_
          refine va_iald (D := D) hx hb hK hP 75 0 (wd_75 y ad cap I J) rfl (vp_in_nI (by omega) (by omega)) dX9_walk_39 ?_
          rw [nI_clamp (n := b0) (by omega)]
          refine lv_topi (fun v39 ev39 => ?_)
          obtain rfl : v39 = 1 := by
            rw [ev39, (mB _ hb0).2.2.1, hwy1]; rfl
          refine lv_if_ne (tgt := 47) hx hb dX9_walk_40 (by decide) (fun c40 => ?_) (fun c40 => ?_)
          · skip
            refine lv_aload_n hx hb dX9_walk_47 rfl (lv_at hl 2 rfl) ?_
            refine lv_aload_n hx hb dX9_walk_48 rfl (lv_at hl 2 rfl) ?_
            refine va_get (D := D) (T := TX9) (N := 51) hx hb hts jnX9 hown hK hP 55 (wd_55 y ad cap I J) rfl 41 (by decide) (hts _ fl_X9_205) (fun _ h9 => h9) rfl dX9_walk_49 ?_
            refine lv_topi (fun v49 ev49 => ?_)
            obtain rfl : v49 = (nI (TL 0 7)) := by
              rw [ev49]; exact m41 htz
            refine lv_lload_n hx hb dX9_walk_52 rfl (lv_at hl 0 rfl) ?_
            refine lv_aload_n hx hb dX9_walk_53 rfl (lv_at hl 2 rfl) ?_
            refine lv_iconst (v := 1) hx hb dX9_walk_54 (by decide) ?_
            refine lv_aload_n hx hb dX9_walk_55 rfl (lv_at hl 2 rfl) ?_
            refine va_get (D := D) (T := TX9) (N := 51) hx hb hts jnX9 hown hK hP 55 (wd_55 y ad cap I J) rfl 37 (by decide) (hts _ fl_X9_72) (fun _ h9 => h9) rfl dX9_walk_56 ?_
            refine lv_iload_n hx hb dX9_walk_59 rfl (lv_at hl 3 rfl) ?_
            refine va_iald (D := D) hx hb hK hP 76 0 (wd_76 y ad cap I J) rfl (vp_in_nI (by omega) (by omega)) dX9_walk_60 ?_
            rw [nI_clamp (n := b0) (by omega)]
            refine lv_topi (fun v60 ev60 => ?_)
            obtain rfl : v60 = (nI t0) := by
              rw [ev60, (mB _ hb0).2.2.2, hrt]; rfl
            refine rk_i (run_v (As := [.int 1, .int (nI t0)]) (rest := [.long (lN (plc TL M t0)), .int (nI (TL 0 7)), .ref (ad 55)]) (b := (ad 55)) hx hb hml hown hO.2 (c_X9_encoded l D y ad cap I J hX0 hW9 1 (nI t0)) k_X9_encoded ml_X9_228 ⟨rfl, rfl⟩ ⟨Nat.le_of_ble_eq_true rfl, Nat.le_of_ble_eq_true rfl⟩ (pre_VR hO hP (wd_55 y ad cap I J) rfl) rfl hl.1 rfl (Nat.le_of_ble_eq_true rfl) dX9_walk_61 ⟨(Nat.zero_le _), (Nat.zero_le _)⟩) (fun r61 er61 => ?_)
            try dsimp only at er61
            obtain rfl : r61 = (nI (cde (TL 10 (TL 0 7)) (TL 11 (TL 0 7)) (plc TL M t0) (labA TL (cnt M) (thA M t0).2.1))) := by
              rw [er61]; unfold qEnc; rw [if_neg (by decide), if_pos rfl, ix_in (n := M.length) (by omega) ht0]; simp only [Option.bind_some, cdT]; rw [if_pos hh2]; rfl
            refine rk_l (run_v (As := [.int (nI (TL 0 7)), .long (lN (plc TL M t0)), .int (nI (cde (TL 10 (TL 0 7)) (TL 11 (TL 0 7)) (plc TL M t0) (labA TL (cnt M) (thA M t0).2.1)))]) (rest := []) (b := (ad 55)) hx hb hml hown hO.2 (c_X9_goes l D y ad cap I J hK9 hW0 (k0 := TL 0 7) (a0 := plc TL M t0) (b0 := labA TL (cnt M) (thA M t0).2.1) kk1 kk2 (by omega) (by omega) hh2) k_X9_goes ml_X9_231 ⟨rfl, rfl⟩ ⟨Nat.le_of_ble_eq_true rfl, Nat.le_of_ble_eq_true rfl⟩ (pre_VR hO hP (wd_55 y ad cap I J) rfl) rfl hl.1 rfl (Nat.le_of_ble_eq_true rfl) dX9_walk_64 ⟨(Nat.zero_le _), (Nat.zero_le _)⟩) (fun r64 er64 => ?_)
            try dsimp only at er64
            refine W.lret (v := r64) hx hb hr (fun t ht hW => ⟨_, rfl, ?_, ht⟩) (fun _ h => nomatch h) dX9_walk_67
            have hw2 : ¬ wyB TL M b0 = 2 := by omega
            rw [ix_in (by omega) hb0]
            simp only [wkB]
            rw [if_neg hw2]
            rw [er64, htl]
          · skip
            exact absurd c40 (by decide)
    · skip
      refine lv_ldc2 (v := (-9223372036854775808)) hx hb hown (hts _ kc_X9_219) dX9_walk_12 ?_
      refine W.lret (v := (-9223372036854775808)) hx hb hr (fun t ht hW => ⟨_, rfl, ?_, ht⟩) (fun _ h => nomatch h) dX9_walk_15
      rw [er3] at c9
      have h9 := hneg.mp c9
      by_cases h8 : ¬ p1 < 0 ∧ ¬ nI (TL 0 2) ≤ p1
      · obtain ⟨b0, rfl, hb0⟩ := ix_ok (by omega) h8
        rw [ix_in (by omega) hb0] at h9 ⊢
        have h7 := cdB_none.mp h9
        simp only [wkB]
        rw [if_pos h7]
      · rw [ix_no h8]
        rfl
set_option maxHeartbeats 4000000 in
set_option maxRecDepth 100000 in
theorem c_X9_far (l : Launch) (D : va_G) (y : Nat → ClassId) (ad : Nat → Nat) (cap : Nat → Nat) (I : Nat → Nat → Int32) (J : Nat → Nat → Int64) (sz : Nat) {T : Nat → Nat → Nat} (hM : RM I T) (hW : WF T) : Met l yX9_far [.code yX9_far cX9_far 6 (some .int)] ({ frames := 1, cells := 0, slots := 0, locals := 29 }) (va_Pc [.ref (ad 55)] (PW D y (Wd y ad cap I J) sz)) (va_Qi (fun (r : Int32) (u : St4) => r = nI (farC T (T 0 2)) ∧ ∃ J', u = (ad, cap, I, J') ∧ EqJ [86] J J') (Aft D (Wt y) (Wd y ad cap I J) sz) (va_A (Wd y ad cap I J) sz)) 0 0 (va_A (Wd y ad cap I J) sz) := by
  refine Met.ofW (cc := cX9_far) (maxL := 6) (ret := (some .int)) (by decide) rfl ?_
  intro p e s m args below meth c s₁ B hml hv
  obtain ⟨rfl, rfl, hP, hD0, hO⟩ := hv
  have hx := B.exec
  have hb := B.bytes
  have hr := B.returns
  have hown : s.vm.findClass RX9 = some m.cls := findClass_of_methodNamed B.named
  have hlocks := B.notSynchronized
  have hK := hO.1
  have hts : ∀ w ∈ lw_E, w.before ([.ref (ad 55)] : List Value).toArray s = true := fun w h => hO.2 w h _
  clear B
  have hD := hD0.self (sz := s.heap.size)
  generalize hAe : va_A (Wd y ad cap I J) s.heap.size = A at hD ⊢
  have hA : ∀ q : Nat, s.heap.size ≤ q → A q := fun q h => by rw [← hAe]; exact Or.inr h
  have hS : va_S A s.heap s.heap [] := va_S.rf
  have hl := lv_entry ([.ref (ad 55)]) (n := 6) (Nat.le_of_ble_eq_true rfl)
  rw [lg_entry_eq]
  generalize (lg_sl ([.ref (ad 55)]) ++ List.replicate (6 - (lg_sl ([.ref (ad 55)])).length) Slot.unset).toArray = ls at hl ⊢
  have hl : lv_has ls 6 [(0, .ref (ad 55))] := hl
  have hW0 := hW
  obtain ⟨⟨w1, w2, w3, w4, w5, w6, w7⟩, wS, wL, wB, wK, wTk, wT0⟩ := hW
  refine lv_aload_n hx hb dX9_far_0 rfl (lv_at hl 0 rfl) ?_
  refine va_get (D := D) (T := TX9) (N := 51) hx hb hts jnX9 hown hK hP 55 (wd_55 y ad cap I J) rfl 18 (by decide) (hts _ fl_X9_136) (fun _ h9 => h9) rfl dX9_far_1 ?_
  refine lv_topi (fun v1 ev1 => ?_)
  obtain rfl : v1 = (nI (T 0 4)) := by
    rw [ev1]; exact hM.1.2.2.2.2.1
  refine lv_i2l (v := lN (T 0 4)) hx hb dX9_far_4 (nI_l (by omega)) ?_
  refine lv_lstore_n (lv' := [(1, .long (lN (T 0 4))), (0, .ref (ad 55))]) hx hb dX9_far_5 rfl hl (by decide) rfl (fun ls hl => ?_)
  refine lv_iconst (v := 0) hx hb dX9_far_6 (by decide) ?_
  rw [show (0 : Int32) = (nI 0) from rfl]
  refine lv_istore_n (lv' := [(3, .int (nI 0)), (1, .long (lN (T 0 4))), (0, .ref (ad 55))]) hx hb dX9_far_7 rfl hl (by decide) rfl (fun ls hl => ?_)
  have loop8 : ∀ (n8 : Nat) (k : Nat) (J8 : Nat → Nat → Int64) , (k ≤ T 0 0) → (∀ s, s < k → J8 86 s = lN (sA T (fun _ => 0) s)) → (EqJ [86] J J8) → T 0 0 + 1 ≤ k + n8 → ∀ (H : Heap) (locs : List Loc), va_P D vwCl (Wd y ad cap I J8) H → va_D A (Wd y ad cap I J8) → va_S A s.heap H locs → ∀ ls : Array Slot, lv_has ls 6 [(0, .ref (ad 55)), (1, .long (lN (sAt T (fun _ => 0) k))), (3, .int (nI k))] → W p l e (headSpec [.code yX9_far cX9_far 6 (some .int)] ({ frames := 1, cells := 0, slots := 0, locals := 29 })).room s m ([.ref (ad 55)] : List Value).toArray below meth c H locs 0 0 (MQ below (va_Qi (fun (r : Int32) (u : St4) => r = nI (farC T (T 0 2)) ∧ ∃ J', u = (ad, cap, I, J') ∧ EqJ [86] J J') (Aft D (Wt y) (Wd y ad cap I J) s.heap.size) A) ([.ref (ad 55)] : List Value).toArray s 0 0 A) (F0 m 8 ls []) := by
    intro n8
    induction n8 with
    | zero =>
      intro k J8 hk h86 hE hmeas
      exact absurd hmeas (by omega)
    | succ n8 ih8 =>
      intro k J8 hk h86 hE hmeas H locs hP hD hS ls hl
      refine lv_iload_n hx hb dX9_far_8 rfl (lv_at hl 2 rfl) ?_
      refine lv_aload_n hx hb dX9_far_9 rfl (lv_at hl 0 rfl) ?_
      refine va_get (D := D) (T := TX9) (N := 51) hx hb hts jnX9 hown hK hP 55 (wd_55 y ad cap I J8) rfl 0 (by decide) (hts _ fl_X9_105) (fun _ h9 => h9) rfl dX9_far_10 ?_
      refine lv_topi (fun v10 ev10 => ?_)
      obtain rfl : v10 = (nI (T 0 0)) := by
        rw [ev10]; exact hM.1.1
      refine lv_icmp_ge (tgt := 50) hx hb dX9_far_13 (by decide) (fun c13 => ?_) (fun c13 => ?_)
      · skip
        have c13 := (nI_leI (a := (T 0 0)) (b := k) (by omega) (by omega)).mp c13
        have hk8 : k = T 0 0 := by omega
        rw [hk8] at h86
        clear hk
        refine lv_iconst (v := 0) hx hb dX9_far_50 (by decide) ?_
        rw [show (0 : Int32) = (nI (farC T 0)) from rfl]
        refine lv_istore_n (lv' := [(3, .int (nI (farC T 0))), (0, .ref (ad 55)), (1, .long (lN (sAt T (fun _ => 0) k)))]) hx hb dX9_far_51 rfl hl (by decide) rfl (fun ls hl => ?_)
        refine lv_iconst (v := 0) hx hb dX9_far_52 (by decide) ?_
        rw [show (0 : Int32) = (nI 0) from rfl]
        refine lv_istore (lv' := [(4, .int (nI 0)), (3, .int (nI (farC T 0))), (0, .ref (ad 55)), (1, .long (lN (sAt T (fun _ => 0) k)))]) hx hb dX9_far_53 hl (by decide) rfl (fun ls hl => ?_)
        have loop55 : ∀ (n55 : Nat) (b : Nat) , (b ≤ T 0 2) → T 0 2 + 1 ≤ b + n55 → ∀ (H : Heap) (locs : List Loc), va_P D vwCl (Wd y ad cap I J8) H → va_D A (Wd y ad cap I J8) → va_S A s.heap H locs → ∀ ls : Array Slot, lv_has ls 6 [(0, .ref (ad 55)), (3, .int (nI (farC T b))), (4, .int (nI b))] → W p l e (headSpec [.code yX9_far cX9_far 6 (some .int)] ({ frames := 1, cells := 0, slots := 0, locals := 29 })).room s m ([.ref (ad 55)] : List Value).toArray below meth c H locs 0 0 (MQ below (va_Qi (fun (r : Int32) (u : St4) => r = nI (farC T (T 0 2)) ∧ ∃ J', u = (ad, cap, I, J') ∧ EqJ [86] J J') (Aft D (Wt y) (Wd y ad cap I J) s.heap.size) A) ([.ref (ad 55)] : List Value).toArray s 0 0 A) (F0 m 55 ls []) := by
          intro n55
          induction n55 with
          | zero =>
            intro b hb9 hmeas
            exact absurd hmeas (by omega)
          | succ n55 ih55 =>
            intro b hb9 hmeas H locs hP hD hS ls hl
            refine lv_iload hx hb dX9_far_55 (lv_at hl 2 rfl) ?_
            refine lv_aload_n hx hb dX9_far_57 rfl (lv_at hl 0 rfl) ?_
            refine va_get (D := D) (T := TX9) (N := 51) hx hb hts jnX9 hown hK hP 55 (wd_55 y ad cap I J8) rfl 2 (by decide) (hts _ fl_X9_124) (fun _ h9 => h9) rfl dX9_far_58 ?_
            refine lv_topi (fun v58 ev58 => ?_)
            obtain rfl : v58 = (nI (T 0 2)) := by
              rw [ev58]; exact hM.1.2.2.1
            refine lv_icmp_ge (tgt := 143) hx hb dX9_far_61 (by decide) (fun c61 => ?_) (fun c61 => ?_)
            · skip
              have c61 := (nI_leI (a := (T 0 2)) (b := b) (by omega) (by omega)).mp c61
              refine lv_iload_n hx hb dX9_far_143 rfl (lv_at hl 1 rfl) ?_
              refine W.iret (v := (nI (farC T b))) hx hb hr (fun t ht hW => ⟨⟨_, (ad, cap, I, J8), rfl, ?_, by rw [ht]; exact hP, by show va_D (va_A (Wd y ad cap I J) s.heap.size) _; rw [hAe]; exact hD⟩, hS.F ht⟩) hS.2.2 dX9_far_144
              have hk9 : b = T 0 2 := by omega
              rw [hk9]
              exact ⟨rfl, J8, rfl, hE⟩
            · skip
              have c61 := mt (nI_leI (a := (T 0 2)) (b := b) (by omega) (by omega)).mpr c61
              obtain ⟨x1, x2, x6, x7, x8⟩ := wB b (by omega)
              obtain ⟨x3, x4, x5⟩ := wS _ x1
              obtain ⟨z1, z2⟩ := wL _ x8
              obtain ⟨z3, z4, z5⟩ := wS _ z1
              have hfl := farC_le T b
              have ha := braA_le (n := fun _ => 0) hW0 (fun _ => by omega) (b := b) (by omega)
              have hb9 := labA_le (n := fun _ => 0) hW0 (fun _ => by omega) x8
              refine lv_aload_n hx hb dX9_far_64 rfl (lv_at hl 0 rfl) ?_
              refine va_get (D := D) (T := TX9) (N := 51) hx hb hts jnX9 hown hK hP 55 (wd_55 y ad cap I J8) rfl 12 (by decide) (hts _ fl_X9_35) (fun _ h9 => h9) rfl dX9_far_65 ?_
              refine lv_iload hx hb dX9_far_68 (lv_at hl 2 rfl) ?_
              refine va_iald (D := D) hx hb hK hP 64 0 (wd_64 y ad cap I J8) rfl (vp_in_nI (by omega) (by omega)) dX9_far_70 ?_
              rw [nI_clamp (n := b) (by omega)]
              refine lv_topi (fun v70 ev70 => ?_)
              obtain rfl : v70 = (nI (T 9 b)) := by
                rw [ev70]; exact (hM.2.2.2.1 _ (by omega)).2.2.2
              refine lv_istore (lv' := [(5, .int (nI (T 9 b))), (0, .ref (ad 55)), (3, .int (nI (farC T b))), (4, .int (nI b))]) hx hb dX9_far_71 hl (by decide) rfl (fun ls hl => ?_)
              refine lv_iload_n hx hb dX9_far_73 rfl (lv_at hl 2 rfl) ?_
              refine lv_aload_n hx hb dX9_far_74 rfl (lv_at hl 1 rfl) ?_
              refine lv_aload_n hx hb dX9_far_75 rfl (lv_at hl 1 rfl) ?_
              refine va_get (D := D) (T := TX9) (N := 51) hx hb hts jnX9 hown hK hP 55 (wd_55 y ad cap I J8) rfl 11 (by decide) (hts _ fl_X9_32) (fun _ h9 => h9) rfl dX9_far_76 ?_
              refine lv_iload hx hb dX9_far_79 (lv_at hl 3 rfl) ?_
              refine va_iald (D := D) hx hb hK hP 63 0 (wd_63 y ad cap I J8) rfl (vp_in_nI (by omega) (by omega)) dX9_far_81 ?_
              rw [nI_clamp (n := b) (by omega)]
              refine lv_topi (fun v81 ev81 => ?_)
              obtain rfl : v81 = (nI (T 8 b)) := by
                rw [ev81]; exact (hM.2.2.2.1 _ (by omega)).2.2.1
              refine lv_aload_n hx hb dX9_far_82 rfl (lv_at hl 1 rfl) ?_
              refine va_get (D := D) (T := TX9) (N := 51) hx hb hts jnX9 hown hK hP 55 (wd_55 y ad cap I J8) rfl 50 (by decide) (hts _ fl_X9_102) (fun _ h9 => h9) rfl dX9_far_83 ?_
              refine lv_aload_n hx hb dX9_far_86 rfl (lv_at hl 1 rfl) ?_
              refine va_get (D := D) (T := TX9) (N := 51) hx hb hts jnX9 hown hK hP 55 (wd_55 y ad cap I J8) rfl 9 (by decide) (hts _ fl_X9_26) (fun _ h9 => h9) rfl dX9_far_87 ?_
              refine lv_iload hx hb dX9_far_90 (lv_at hl 3 rfl) ?_
              refine va_iald (D := D) hx hb hK hP 61 0 (wd_61 y ad cap I J8) rfl (vp_in_nI (by omega) (by omega)) dX9_far_92 ?_
              rw [nI_clamp (n := b) (by omega)]
              refine lv_topi (fun v92 ev92 => ?_)
              obtain rfl : v92 = (nI (T 6 b)) := by
                rw [ev92]; exact (hM.2.2.2.1 _ (by omega)).1
              refine va_lald (D := D) hx hb hK hP 86 1 (wd_86 y ad cap I J8) rfl (vp_in_nI (by omega) (by omega)) dX9_far_93 ?_
              rw [nI_clamp (n := T 6 b) (by omega)]
              refine lv_topl (fun v93 ev93 => ?_)
              obtain rfl : v93 = (lN (sA T (fun _ => 0) (T 6 b))) := by
                rw [ev93]; exact h86 _ (by omega)
              refine lv_aload_n hx hb dX9_far_94 rfl (lv_at hl 1 rfl) ?_
              refine va_get (D := D) (T := TX9) (N := 51) hx hb hts jnX9 hown hK hP 55 (wd_55 y ad cap I J8) rfl 10 (by decide) (hts _ fl_X9_29) (fun _ h9 => h9) rfl dX9_far_95 ?_
              refine lv_iload hx hb dX9_far_98 (lv_at hl 3 rfl) ?_
              refine va_iald (D := D) hx hb hK hP 62 0 (wd_62 y ad cap I J8) rfl (vp_in_nI (by omega) (by omega)) dX9_far_100 ?_
              rw [nI_clamp (n := b) (by omega)]
              refine lv_topi (fun v100 ev100 => ?_)
              obtain rfl : v100 = (nI (T 7 b)) := by
                rw [ev100]; exact (hM.2.2.2.1 _ (by omega)).2.1
              refine lv_i2l (v := lN (T 7 b)) hx hb dX9_far_101 (nI_l (by omega)) ?_
              refine lv_ladd hx hb dX9_far_102 ?_
              refine lv_topl (fun v102 ev102 => ?_)
              obtain rfl : v102 = (lN (braA T (fun _ => 0) b)) := by
                rw [ev102, lN_add]; rfl
              refine lv_aload_n hx hb dX9_far_103 rfl (lv_at hl 1 rfl) ?_
              refine va_get (D := D) (T := TX9) (N := 51) hx hb hts jnX9 hown hK hP 55 (wd_55 y ad cap I J8) rfl 50 (by decide) (hts _ fl_X9_102) (fun _ h9 => h9) rfl dX9_far_104 ?_
              refine lv_aload_n hx hb dX9_far_107 rfl (lv_at hl 1 rfl) ?_
              refine va_get (D := D) (T := TX9) (N := 51) hx hb hts jnX9 hown hK hP 55 (wd_55 y ad cap I J8) rfl 7 (by decide) (hts _ fl_X9_20) (fun _ h9 => h9) rfl dX9_far_108 ?_
              refine lv_iload hx hb dX9_far_111 (lv_at hl 0 rfl) ?_
              refine va_iald (D := D) hx hb hK hP 59 0 (wd_59 y ad cap I J8) rfl (vp_in_nI (by omega) (by omega)) dX9_far_113 ?_
              rw [nI_clamp (n := T 9 b) (by omega)]
              refine lv_topi (fun v113 ev113 => ?_)
              obtain rfl : v113 = (nI (T 4 (T 9 b))) := by
                rw [ev113]; exact (hM.2.2.1 _ (by omega)).1
              refine va_lald (D := D) hx hb hK hP 86 1 (wd_86 y ad cap I J8) rfl (vp_in_nI (by omega) (by omega)) dX9_far_114 ?_
              rw [nI_clamp (n := T 4 (T 9 b)) (by omega)]
              refine lv_topl (fun v114 ev114 => ?_)
              obtain rfl : v114 = (lN (sA T (fun _ => 0) (T 4 (T 9 b)))) := by
                rw [ev114]; exact h86 _ (by omega)
              refine lv_aload_n hx hb dX9_far_115 rfl (lv_at hl 1 rfl) ?_
              refine va_get (D := D) (T := TX9) (N := 51) hx hb hts jnX9 hown hK hP 55 (wd_55 y ad cap I J8) rfl 8 (by decide) (hts _ fl_X9_23) (fun _ h9 => h9) rfl dX9_far_116 ?_
              refine lv_iload hx hb dX9_far_119 (lv_at hl 0 rfl) ?_
              refine va_iald (D := D) hx hb hK hP 60 0 (wd_60 y ad cap I J8) rfl (vp_in_nI (by omega) (by omega)) dX9_far_121 ?_
              rw [nI_clamp (n := T 9 b) (by omega)]
              refine lv_topi (fun v121 ev121 => ?_)
              obtain rfl : v121 = (nI (T 5 (T 9 b))) := by
                rw [ev121]; exact (hM.2.2.1 _ (by omega)).2
              refine lv_i2l (v := lN (T 5 (T 9 b))) hx hb dX9_far_122 (nI_l (by omega)) ?_
              refine lv_ladd hx hb dX9_far_123 ?_
              refine lv_topl (fun v123 ev123 => ?_)
              obtain rfl : v123 = (lN (labA T (fun _ => 0) (T 9 b))) := by
                rw [ev123, lN_add]; rfl
              refine rk_i (run_v (As := [.int (nI (T 8 b)), .long (lN (braA T (fun _ => 0) b)), .long (lN (labA T (fun _ => 0) (T 9 b)))]) (rest := [.int (nI (farC T b))]) (b := (ad 55)) hx hb hml hown hO.2 (c_X9_reaches l D y ad cap I J8 hM hW0 (k0 := T 8 b) x6 x7 (by omega) (by omega)) k_X9_reaches ml_X9_147 ⟨rfl, rfl⟩ ⟨Nat.le_of_ble_eq_true rfl, Nat.le_of_ble_eq_true rfl⟩ (pre_VR hO hP (wd_55 y ad cap I J8) rfl) rfl hl.1 rfl (Nat.le_of_ble_eq_true rfl) dX9_far_124 ⟨(Nat.zero_le _), (Nat.zero_le _)⟩) (fun r124 er124 => ?_)
              try dsimp only at er124
              refine lv_if_eq (tgt := 134) hx hb dX9_far_127 (by decide) (fun c127 => ?_) (fun c127 => ?_)
              · skip
                have c127 := if01_z er124 c127
                have eN : farC T (b + 1) = farC T b + 1 := by simp only [farC]; rw [if_neg (show ¬ dirB T (fun _ => 0) b = true from c127)]
                refine lv_iconst (v := 1) hx hb dX9_far_134 (by decide) ?_
                refine lv_iadd hx hb dX9_far_135 ?_
                refine lv_topi (fun v135 ev135 => ?_)
                obtain rfl : v135 = (nI ((farC T b) + 1)) := by rw [ev135, show (1 : Int32) = nI 1 from rfl, nI_add]
                refine lv_istore_n (lv' := [(3, .int (nI ((farC T b) + 1))), (5, .int (nI (T 9 b))), (0, .ref (ad 55)), (4, .int (nI b))]) hx hb dX9_far_136 rfl hl (by decide) rfl (fun ls hl => ?_)
                refine lv_iinc (v := (nI (b + 1))) (lv' := [(4, .int (nI (b + 1))), (3, .int (nI ((farC T b) + 1))), (5, .int (nI (T 9 b))), (0, .ref (ad 55))]) hx hb dX9_far_137 hl (k := 3) rfl (nI_1 _) (by decide) rfl (fun ls hl => ?_)
                refine lv_goto (tgt := 55) hx hb dX9_far_140 (by decide) ?_
                exact ih55 (b + 1) (by omega) (by omega) _ _ hP hD hS ls (by rw [eN]; exact lv_sub hl [3, 1, 0] rfl)
              · skip
                have c127 := if01_n er124 c127
                have eN : farC T (b + 1) = farC T b + 0 := by simp only [farC]; rw [if_pos (show dirB T (fun _ => 0) b = true from c127)]
                refine lv_iconst (v := 0) hx hb dX9_far_130 (by decide) ?_
                refine lv_goto (tgt := 135) hx hb dX9_far_131 (by decide) ?_
                refine lv_iadd hx hb dX9_far_135 ?_
                refine lv_topi (fun v135 ev135 => ?_)
                obtain rfl : v135 = (nI ((farC T b) + 0)) := by rw [ev135, show (0 : Int32) = nI 0 from rfl, nI_add]
                refine lv_istore_n (lv' := [(3, .int (nI ((farC T b) + 0))), (5, .int (nI (T 9 b))), (0, .ref (ad 55)), (4, .int (nI b))]) hx hb dX9_far_136 rfl hl (by decide) rfl (fun ls hl => ?_)
                refine lv_iinc (v := (nI (b + 1))) (lv' := [(4, .int (nI (b + 1))), (3, .int (nI ((farC T b) + 0))), (5, .int (nI (T 9 b))), (0, .ref (ad 55))]) hx hb dX9_far_137 hl (k := 3) rfl (nI_1 _) (by decide) rfl (fun ls hl => ?_)
                refine lv_goto (tgt := 55) hx hb dX9_far_140 (by decide) ?_
                exact ih55 (b + 1) (by omega) (by omega) _ _ hP hD hS ls (by rw [eN]; exact lv_sub hl [3, 1, 0] rfl)
        exact loop55 (T 0 2 + 1) 0 (by omega) (by omega) _ _ hP hD hS ls (by exact lv_sub hl [2, 1, 0] rfl)
      · skip
        have c13 := mt (nI_leI (a := (T 0 0)) (b := k) (by omega) (by omega)).mpr c13
        obtain ⟨g1, g2, g3⟩ := wS k (by omega)
        have hsk := sAt_le (n := fun _ => 0) hW0 (fun _ => by omega) k (by omega)
        have hsa := sA_le (n := fun _ => 0) hW0 (fun _ => by omega) (s := k) (by omega)
        refine lv_lload_n hx hb dX9_far_16 rfl (lv_at hl 1 rfl) ?_
        refine lv_aload_n hx hb dX9_far_17 rfl (lv_at hl 0 rfl) ?_
        refine va_get (D := D) (T := TX9) (N := 51) hx hb hts jnX9 hown hK hP 55 (wd_55 y ad cap I J8) rfl 5 (by decide) (hts _ fl_X9_13) (fun _ h9 => h9) rfl dX9_far_18 ?_
        refine lv_iload_n hx hb dX9_far_21 rfl (lv_at hl 2 rfl) ?_
        refine va_iald (D := D) hx hb hK hP 57 0 (wd_57 y ad cap I J8) rfl (vp_in_nI (by omega) (by omega)) dX9_far_22 ?_
        rw [nI_clamp (n := k) (by omega)]
        refine lv_topi (fun v22 ev22 => ?_)
        obtain rfl : v22 = (nI (T 2 k)) := by
          rw [ev22]; exact (hM.2.1 _ (by omega)).2.1
        refine rk_l (run_s (As := [.long (lN (sAt T (fun _ => 0) k)), .int (nI (T 2 k))]) (rest := []) hx hb hml hown hO.2 (c_X9_upTo l D y (a0 := sAt T (fun _ => 0) k) (k0 := T 2 k) (by omega) (by omega)) k_X9_upTo ml_X9_139 ⟨rfl, rfl⟩ ⟨Nat.le_of_ble_eq_true rfl, Nat.le_of_ble_eq_true rfl⟩ (pre_SR hO hP) rfl hl.1 rfl (Nat.le_of_ble_eq_true rfl) dX9_far_23 ⟨(Nat.zero_le _), (Nat.zero_le _)⟩) (fun r23 er23 => ?_)
        try dsimp only at er23
        obtain rfl : r23 = (lN (sA T (fun _ => 0) k)) := by
          exact er23
        refine lv_lstore_n (lv' := [(1, .long (lN (sA T (fun _ => 0) k))), (0, .ref (ad 55)), (3, .int (nI k))]) hx hb dX9_far_26 rfl hl (by decide) rfl (fun ls hl => ?_)
        refine lv_aload_n hx hb dX9_far_27 rfl (lv_at hl 1 rfl) ?_
        refine va_get (D := D) (T := TX9) (N := 51) hx hb hts jnX9 hown hK hP 55 (wd_55 y ad cap I J8) rfl 50 (by decide) (hts _ fl_X9_102) (fun _ h9 => h9) rfl dX9_far_28 ?_
        refine lv_iload_n hx hb dX9_far_31 rfl (lv_at hl 2 rfl) ?_
        refine lv_lload_n hx hb dX9_far_32 rfl (lv_at hl 0 rfl) ?_
        refine va_last (D := D) hx hb hK hP hD hS 86 1 (wd_86 y ad cap I J8) rfl (vp_in_nI (by omega) (by omega)) dX9_far_33 (fun H locs hP hD hS => ?_)
        rw [nI_clamp (n := k) (by omega)] at hP hD
        rw [ws_86] at hP hD
        generalize eJ33 : va_up J8 86 (vp_updL (J8 86) k (lN (sA T (fun _ => 0) k))) = J33 at hP hD
        refine lv_lload_n hx hb dX9_far_34 rfl (lv_at hl 0 rfl) ?_
        refine lv_aload_n hx hb dX9_far_35 rfl (lv_at hl 1 rfl) ?_
        refine va_get (D := D) (T := TX9) (N := 51) hx hb hts jnX9 hown hK hP 55 (wd_55 y ad cap I J33) rfl 4 (by decide) (hts _ fl_X9_7) (fun _ h9 => h9) rfl dX9_far_36 ?_
        refine lv_iload_n hx hb dX9_far_39 rfl (lv_at hl 2 rfl) ?_
        refine va_iald (D := D) hx hb hK hP 56 0 (wd_56 y ad cap I J33) rfl (vp_in_nI (by omega) (by omega)) dX9_far_40 ?_
        rw [nI_clamp (n := k) (by omega)]
        refine lv_topi (fun v40 ev40 => ?_)
        obtain rfl : v40 = (nI (T 1 k)) := by
          rw [ev40]; exact (hM.2.1 _ (by omega)).1
        refine lv_i2l (v := lN (T 1 k)) hx hb dX9_far_41 (nI_l (by omega)) ?_
        refine lv_ladd hx hb dX9_far_42 ?_
        refine lv_topl (fun v42 ev42 => ?_)
        obtain rfl : v42 = (lN ((sA T (fun _ => 0) k) + (T 1 k))) := by rw [ev42, lN_add]
        refine lv_lstore_n (lv' := [(1, .long (lN ((sA T (fun _ => 0) k) + (T 1 k)))), (0, .ref (ad 55)), (3, .int (nI k))]) hx hb dX9_far_43 rfl hl (by decide) rfl (fun ls hl => ?_)
        refine lv_iinc (v := (nI (k + 1))) (lv' := [(3, .int (nI (k + 1))), (1, .long (lN ((sA T (fun _ => 0) k) + (T 1 k)))), (0, .ref (ad 55))]) hx hb dX9_far_44 hl (k := 2) rfl (nI_1 _) (by decide) rfl (fun ls hl => ?_)
        refine lv_goto (tgt := 8) hx hb dX9_far_47 (by decide) ?_
        exact ih8 (k + 1) J33 (by omega) (fun s hs => by subst eJ33; rcases lt_s2 hs with h7 | h7; (subst h7; simp [va_up, vp_updL]); (have h6 := h86 s h7; have h5 : s ≠ k := (by omega); simpa [va_up, vp_updL, h5] using h6)) (by subst eJ33; exact EqJ.up hE (by decide)) (by omega) _ _ hP hD hS ls (by rw [show sAt T (fun _ => 0) (k + 1) = sA T (fun _ => 0) k + T 1 k from rfl]; exact lv_sub hl [2, 1, 0] rfl)
  exact loop8 (T 0 0 + 1) 0 J (by omega) (fun s hs => absurd hs (by omega)) EqJ.rf (by omega) _ _ hP hD hS ls (by exact lv_sub hl [2, 1, 0] rfl)
