def wkB (T : Nat → Nat → Nat) (M : List Th) (o : Option Nat) : Int64 := match o with
  | none => -9223372036854775808
  | some b => if wyB T M b = 2 then -9223372036854775808 else lN (labA T (cnt M) (T 9 b))
theorem cdB_lt {T : Nat → Nat → Nat} {M : List Th} (hW : WF T) {b c : Nat} (hb : b < T 0 2) (h : cdB T M b = some c) : c < 2 ^ 30 := by
  have h30 := (hW.2.2.2.2.1 _ (hW.2.2.2.1 b hb).2.2.1).2
  unfold cdB at h
  split at h
  · cases h
    exact cde_lt h30
  · split at h
    · cases h
    · cases h
      exact cde_lt h30
theorem cdB_none {T : Nat → Nat → Nat} {M : List Th} {b : Nat} : cdB T M b = none ↔ wyB T M b = 2 := by
  unfold cdB wyB
  split
  · simp
  · split <;> simp
set_option maxHeartbeats 4000000 in
set_option maxRecDepth 100000 in
theorem c_X4_walkFrom (l : Launch) (D : va_G) (y : Nat → ClassId) (ad : Nat → Nat) (cap : Nat → Nat) (I : Nat → Nat → Int32) (J : Nat → Nat → Int64) {T : Nat → Nat → Nat} {M : List Th} (hT : RT18 I T) (hW : WF T) (hQ : LQ I J T (cap 0) M) (p0 : Int32) : Met l yX4_walkFrom [.code yX4_walkFrom cX4_walkFrom 6 (some .long)] ({ frames := 4, cells := 0, slots := 0, locals := 103 }) (va_Pc [.ref (ad 17), .int p0] (PR D y (Wd y ad cap I J))) (vp_Sl (fun r => r = wkB T M (ix (T 0 2) p0))) 0 0 (fun _ => False) := by
  refine Met.ofW (cc := cX4_walkFrom) (maxL := 6) (ret := (some .long)) (by decide) rfl ?_
  intro p e s m args below meth c s₁ B hml hv
  obtain ⟨rfl, hP, hO⟩ := hv
  have hx := B.exec
  have hb := B.bytes
  have hr := B.returns
  have hown : s.vm.findClass RX4 = some m.cls := findClass_of_methodNamed B.named
  have hlocks := B.notSynchronized
  have hK := hO.1
  have hts : ∀ w ∈ lw_E, w.before ([.ref (ad 17), .int p0] : List Value).toArray s = true := fun w h => hO.2 w h _
  clear B
  have hl := lv_entry ([.ref (ad 17), .int p0]) (n := 6) (Nat.le_of_ble_eq_true rfl)
  rw [lg_entry_eq]
  generalize (lg_sl ([.ref (ad 17), .int p0]) ++ List.replicate (6 - (lg_sl ([.ref (ad 17), .int p0])).length) Slot.unset).toArray = ls at hl ⊢
  have hl : lv_has ls 6 [(0, .ref (ad 17)), (1, .int p0)] := hl
  have hW0 := hW
  obtain ⟨⟨w1, w2, w3, w4, w5, w6, w7⟩, wS, wL, wB, wK, wTk, wT0⟩ := hW
  have hQ0 := hQ
  obtain ⟨⟨q1, q2, q3, hTW, htz0⟩, qT, qP, qB, hJ, qE⟩ := hQ
  have hnM : ∀ s, cnt M s ≤ 2400 := fun s => by have := cnt_le M s; omega
  refine lv_aload_n hx hb dX4_walkFrom_0 rfl (lv_at hl 0 rfl) ?_
  refine lv_iload_n hx hb dX4_walkFrom_1 rfl (lv_at hl 1 rfl) ?_
  refine rk_i (run_v (As := [.int p0]) (rest := []) (b := (ad 17)) hx hb hml hown hO.2 (c_X4_branchCode l D y ad cap I J hT hW0 hQ0 p0) k_X4_branchCode ml_X4_231 ⟨rfl, rfl⟩ ⟨Nat.le_of_ble_eq_true rfl, Nat.le_of_ble_eq_true rfl⟩ (pre_VR hO hP (wd_17 y ad cap I J) rfl) rfl hl.1 rfl (Nat.le_of_ble_eq_true rfl) dX4_walkFrom_2 ⟨(Nat.zero_le _), (Nat.zero_le _)⟩) (fun r2 er2 => ?_)
  try dsimp only at er2
  refine lv_istore_n (lv' := [(2, .int r2), (0, .ref (ad 17)), (1, .int p0)]) hx hb dX4_walkFrom_5 rfl hl (by decide) rfl (fun ls hl => ?_)
  have hlt : ∀ c, (ix (T 0 2) p0).bind (cdB T M) = some c → ∃ b0, p0 = nI b0 ∧ b0 < T 0 2 ∧ cdB T M b0 = some c ∧ c < 2 ^ 30 := by
    intro c hc
    by_cases h9 : ¬ p0 < 0 ∧ ¬ nI (T 0 2) ≤ p0
    · obtain ⟨b0, rfl, hb0⟩ := ix_ok (by omega) h9
      rw [ix_in (by omega) hb0] at hc
      exact ⟨b0, rfl, hb0, hc, cdB_lt hW0 hb0 hc⟩
    · rw [ix_no h9] at hc
      cases hc
  have hneg := oI_neg (o := (ix (T 0 2) p0).bind (cdB T M)) (fun c hc => by obtain ⟨_, _, _, _, h9⟩ := hlt c hc; omega)
  refine lv_iload_n hx hb dX4_walkFrom_6 rfl (lv_at hl 0 rfl) ?_
  refine lv_iconst (v := (-1)) hx hb dX4_walkFrom_7 (by decide) ?_
  refine lv_icmp_ne (tgt := 15) hx hb dX4_walkFrom_8 (by decide) (fun c8 => ?_) (fun c8 => ?_)
  · skip
    rw [er2] at c8
    obtain ⟨cc0, hcc⟩ := Option.ne_none_iff_exists'.mp (fun h9 => c8 (hneg.mpr h9))
    obtain ⟨b0, rfl, hb0, hcd, hc30⟩ := hlt cc0 hcc
    rw [hcc] at er2
    simp only [oI] at er2
    obtain ⟨x1, x2, x6, x7, x8⟩ := wB b0 hb0
    obtain ⟨x3, x4, x5⟩ := wS _ x1
    have hbr := braA_le hW0 hnM hb0
    have hlb := labA_le hW0 hnM x8
    by_cases hdr : dirB T (cnt M) b0 = true
    · skip
      have hcd2 := hcd
      unfold cdB at hcd2
      rw [if_pos hdr] at hcd2
      obtain rfl := Option.some.inj hcd2
      subst er2
      have hdr2 := hdr
      unfold dirB at hdr2
      have hrt : rtB T M b0 = none := by unfold rtB; rw [if_pos hdr]
      refine lv_aload_n hx hb dX4_walkFrom_15 rfl (lv_at hl 1 rfl) ?_
      refine va_get (D := D) (T := TX4) (N := 9) hx hb hts jnX4 hown hK hP 17 (wd_17 y ad cap I J) rfl 0 (by decide) (hts _ fl_X4_12) (fun _ h9 => h9) rfl dX4_walkFrom_16 ?_
      refine va_getN (D := D) (T := TX7) (N := 8) hx hb hts jnX7 hown hK hP 18 (wd_18 y ad cap I J) rfl 2 (by decide) (hts _ fn_X4_150) (fun _ h9 => h9) rfl dX4_walkFrom_19 ?_
      refine lv_aload_n hx hb dX4_walkFrom_22 rfl (lv_at hl 1 rfl) ?_
      refine va_get (D := D) (T := TX4) (N := 9) hx hb hts jnX4 hown hK hP 17 (wd_17 y ad cap I J) rfl 0 (by decide) (hts _ fl_X4_12) (fun _ h9 => h9) rfl dX4_walkFrom_23 ?_
      refine va_getN (D := D) (T := TX7) (N := 8) hx hb hts jnX7 hown hK hP 18 (wd_18 y ad cap I J) rfl 3 (by decide) (hts _ fn_X4_85) (fun _ h9 => h9) rfl dX4_walkFrom_26 ?_
      refine va_getN (D := D) (T := TX1) (N := 5) hx hb hts jnX1 hown hK hP 29 (wd_29 y ad cap I J) rfl 3 (by decide) (hts _ fn_X4_154) (fun _ h9 => h9) rfl dX4_walkFrom_29 ?_
      refine lv_iload_n hx hb dX4_walkFrom_32 rfl (lv_at hl 2 rfl) ?_
      refine va_iald (D := D) hx hb hK hP 32 0 (wd_32 y ad cap I J) rfl (vp_in_nI (by omega) (by omega)) dX4_walkFrom_33 ?_
      rw [nI_clamp (n := b0) (by omega)]
      refine lv_topi (fun v33 ev33 => ?_)
      obtain rfl : v33 = (nI (T 8 b0)) := by
        rw [ev33]; exact (hT.2.2.2.1 _ (by omega)).2.2.1
      refine lv_aload_n hx hb dX4_walkFrom_34 rfl (lv_at hl 1 rfl) ?_
      refine lv_iload_n hx hb dX4_walkFrom_35 rfl (lv_at hl 2 rfl) ?_
      refine rk_l (run_v (As := [.int (nI b0)]) (rest := [.int (nI (T 8 b0)), .ref (ad 26)]) (b := (ad 17)) hx hb hml hown hO.2 (c_X4_branchAddress l D y ad cap I J hT hW0 hnM hJ (b0 := b0) hb0) k_X4_branchAddress ml_X4_111 ⟨rfl, rfl⟩ ⟨Nat.le_of_ble_eq_true rfl, Nat.le_of_ble_eq_true rfl⟩ (pre_VR hO hP (wd_17 y ad cap I J) rfl) rfl hl.1 rfl (Nat.le_of_ble_eq_true rfl) dX4_walkFrom_36 ⟨(Nat.zero_le _), (Nat.zero_le _)⟩) (fun r36 er36 => ?_)
      try dsimp only at er36
      obtain rfl : r36 = (lN (braA T (cnt M) b0)) := by
        exact er36
      refine lv_iload_n hx hb dX4_walkFrom_39 rfl (lv_at hl 0 rfl) ?_
      refine rk_l (run_vn (As := [.int (nI (T 8 b0)), .long (lN (braA T (cnt M) b0)), .int (nI (cde (T 10 (T 8 b0)) (T 11 (T 8 b0)) (braA T (cnt M) b0) (labA T (cnt M) (T 9 b0))))]) (rest := []) (b := (ad 26)) hx hb hml hown hO.2 (c_X2_follow l D y (wd_26 y ad cap I J) (wd_27 y ad cap I J) (wd_28 y ad cap I J) (k0 := T 8 b0) (a0 := braA T (cnt M) b0) (b0 := labA T (cnt M) (T 9 b0)) x6 (hT.2.2.2.2 _ x6).1 (hT.2.2.2.2 _ x6).2 (wK _ x6).1 x7 (wK _ x6).2 (by omega) (by omega) hdr2) k_X2_follow mn_X4_236 ⟨rfl, rfl⟩ ⟨Nat.le_of_ble_eq_true rfl, Nat.le_of_ble_eq_true rfl⟩ (pre_VR hO hP (wd_26 y ad cap I J) rfl) rfl hl.1 rfl (Nat.le_of_ble_eq_true rfl) dX4_walkFrom_40 ⟨(Nat.zero_le _), (Nat.zero_le _)⟩) (fun r40 er40 => ?_)
      try dsimp only at er40
      obtain rfl : r40 = (lN (labA T (cnt M) (T 9 b0))) := by
        exact er40
      refine lv_lstore_n (lv' := [(3, .long (lN (labA T (cnt M) (T 9 b0)))), (2, .int (nI (cde (T 10 (T 8 b0)) (T 11 (T 8 b0)) (braA T (cnt M) b0) (labA T (cnt M) (T 9 b0))))), (0, .ref (ad 17)), (1, .int (nI b0))]) hx hb dX4_walkFrom_43 rfl hl (by decide) rfl (fun ls hl => ?_)
      refine lv_aload_n hx hb dX4_walkFrom_44 rfl (lv_at hl 2 rfl) ?_
      refine lv_aload_n hx hb dX4_walkFrom_45 rfl (lv_at hl 2 rfl) ?_
      refine va_get (D := D) (T := TX4) (N := 9) hx hb hts jnX4 hown hK hP 17 (wd_17 y ad cap I J) rfl 4 (by decide) (hts _ fl_X4_36) (fun _ h9 => h9) rfl dX4_walkFrom_46 ?_
      refine lv_iload_n hx hb dX4_walkFrom_49 rfl (lv_at hl 3 rfl) ?_
      refine va_iald (D := D) hx hb hK hP 49 0 (wd_49 y ad cap I J) rfl (vp_in_nI (by omega) (by omega)) dX4_walkFrom_50 ?_
      rw [nI_clamp (n := b0) (by omega)]
      refine lv_topi (fun v50 ev50 => ?_)
      obtain rfl : v50 = (oI (rtB T M b0)) := by
        rw [ev50]; exact (qB _ (by omega)).2
      refine rk_i (run_v (As := [.int (oI (rtB T M b0))]) (rest := []) (b := (ad 17)) hx hb hml hown hO.2 (c_X4_thunkCode l D y ad cap I J hT hW0 hQ0 (oI (rtB T M b0))) k_X4_thunkCode ml_X4_240 ⟨rfl, rfl⟩ ⟨Nat.le_of_ble_eq_true rfl, Nat.le_of_ble_eq_true rfl⟩ (pre_VR hO hP (wd_17 y ad cap I J) rfl) rfl hl.1 rfl (Nat.le_of_ble_eq_true rfl) dX4_walkFrom_51 ⟨(Nat.zero_le _), (Nat.zero_le _)⟩) (fun r51 er51 => ?_)
      try dsimp only at er51
      obtain rfl : r51 = (-1) := by
        rw [er51, hrt]
        rfl
      refine lv_istore (lv' := [(5, .int (-1)), (3, .long (lN (labA T (cnt M) (T 9 b0)))), (2, .int (nI (cde (T 10 (T 8 b0)) (T 11 (T 8 b0)) (braA T (cnt M) b0) (labA T (cnt M) (T 9 b0))))), (0, .ref (ad 17)), (1, .int (nI b0))]) hx hb dX4_walkFrom_54 hl (by decide) rfl (fun ls hl => ?_)
      refine lv_iload hx hb dX4_walkFrom_56 (lv_at hl 0 rfl) ?_
      refine lv_iconst (v := (-1)) hx hb dX4_walkFrom_58 (by decide) ?_
      refine lv_icmp_ne (tgt := 64) hx hb dX4_walkFrom_59 (by decide) (fun c59 => ?_) (fun c59 => ?_)
      · skip
        exact absurd rfl c59
      · skip
        refine lv_lload_n hx hb dX4_walkFrom_62 rfl (lv_at hl 1 rfl) ?_
        refine W.lret (v := (lN (labA T (cnt M) (T 9 b0)))) hx hb hr (fun t ht hW => ⟨_, rfl, ?_, ht⟩) (fun _ h => nomatch h) dX4_walkFrom_63
        have hw2 : ¬ wyB T M b0 = 2 := fun h9 => by rw [cdB_none.mpr h9] at hcd; cases hcd
        rw [ix_in (by omega) hb0]
        simp only [wkB]
        rw [if_neg hw2]
    · skip
      have hcd2 := hcd
      unfold cdB at hcd2
      rw [if_neg hdr] at hcd2
      cases hbt : bst T M b0 (T 0 0) with
      | none =>
        rw [hbt] at hcd2
        cases hcd2
      | some t0 =>
        rw [hbt] at hcd2
        obtain rfl := Option.some.inj hcd2
        subst er2
        have hrt : rtB T M b0 = some t0 := by unfold rtB; rw [if_neg hdr]; exact hbt
        have ht0 := bst_lt _ _ hbt
        have hpl := plc_le hW0 (by omega) hTW ht0
        obtain ⟨hh1, hh2⟩ := help_split (bst_help _ _ hbt).1
        have htl := (bst_help _ _ hbt).2
        have htz := htz0 (by omega)
        refine lv_aload_n hx hb dX4_walkFrom_15 rfl (lv_at hl 1 rfl) ?_
        refine va_get (D := D) (T := TX4) (N := 9) hx hb hts jnX4 hown hK hP 17 (wd_17 y ad cap I J) rfl 0 (by decide) (hts _ fl_X4_12) (fun _ h9 => h9) rfl dX4_walkFrom_16 ?_
        refine va_getN (D := D) (T := TX7) (N := 8) hx hb hts jnX7 hown hK hP 18 (wd_18 y ad cap I J) rfl 2 (by decide) (hts _ fn_X4_150) (fun _ h9 => h9) rfl dX4_walkFrom_19 ?_
        refine lv_aload_n hx hb dX4_walkFrom_22 rfl (lv_at hl 1 rfl) ?_
        refine va_get (D := D) (T := TX4) (N := 9) hx hb hts jnX4 hown hK hP 17 (wd_17 y ad cap I J) rfl 0 (by decide) (hts _ fl_X4_12) (fun _ h9 => h9) rfl dX4_walkFrom_23 ?_
        refine va_getN (D := D) (T := TX7) (N := 8) hx hb hts jnX7 hown hK hP 18 (wd_18 y ad cap I J) rfl 3 (by decide) (hts _ fn_X4_85) (fun _ h9 => h9) rfl dX4_walkFrom_26 ?_
        refine va_getN (D := D) (T := TX1) (N := 5) hx hb hts jnX1 hown hK hP 29 (wd_29 y ad cap I J) rfl 3 (by decide) (hts _ fn_X4_154) (fun _ h9 => h9) rfl dX4_walkFrom_29 ?_
        refine lv_iload_n hx hb dX4_walkFrom_32 rfl (lv_at hl 2 rfl) ?_
        refine va_iald (D := D) hx hb hK hP 32 0 (wd_32 y ad cap I J) rfl (vp_in_nI (by omega) (by omega)) dX4_walkFrom_33 ?_
        rw [nI_clamp (n := b0) (by omega)]
        refine lv_topi (fun v33 ev33 => ?_)
        obtain rfl : v33 = (nI (T 8 b0)) := by
          rw [ev33]; exact (hT.2.2.2.1 _ (by omega)).2.2.1
        refine lv_aload_n hx hb dX4_walkFrom_34 rfl (lv_at hl 1 rfl) ?_
        refine lv_iload_n hx hb dX4_walkFrom_35 rfl (lv_at hl 2 rfl) ?_
        refine rk_l (run_v (As := [.int (nI b0)]) (rest := [.int (nI (T 8 b0)), .ref (ad 26)]) (b := (ad 17)) hx hb hml hown hO.2 (c_X4_branchAddress l D y ad cap I J hT hW0 hnM hJ (b0 := b0) hb0) k_X4_branchAddress ml_X4_111 ⟨rfl, rfl⟩ ⟨Nat.le_of_ble_eq_true rfl, Nat.le_of_ble_eq_true rfl⟩ (pre_VR hO hP (wd_17 y ad cap I J) rfl) rfl hl.1 rfl (Nat.le_of_ble_eq_true rfl) dX4_walkFrom_36 ⟨(Nat.zero_le _), (Nat.zero_le _)⟩) (fun r36 er36 => ?_)
        try dsimp only at er36
        obtain rfl : r36 = (lN (braA T (cnt M) b0)) := by
          exact er36
        refine lv_iload_n hx hb dX4_walkFrom_39 rfl (lv_at hl 0 rfl) ?_
        refine rk_l (run_vn (As := [.int (nI (T 8 b0)), .long (lN (braA T (cnt M) b0)), .int (nI (cde (T 10 (T 8 b0)) (T 11 (T 8 b0)) (braA T (cnt M) b0) (plc T M t0)))]) (rest := []) (b := (ad 26)) hx hb hml hown hO.2 (c_X2_follow l D y (wd_26 y ad cap I J) (wd_27 y ad cap I J) (wd_28 y ad cap I J) (k0 := T 8 b0) (a0 := braA T (cnt M) b0) (b0 := plc T M t0) x6 (hT.2.2.2.2 _ x6).1 (hT.2.2.2.2 _ x6).2 (wK _ x6).1 x7 (wK _ x6).2 (by omega) (by omega) hh1) k_X2_follow mn_X4_236 ⟨rfl, rfl⟩ ⟨Nat.le_of_ble_eq_true rfl, Nat.le_of_ble_eq_true rfl⟩ (pre_VR hO hP (wd_26 y ad cap I J) rfl) rfl hl.1 rfl (Nat.le_of_ble_eq_true rfl) dX4_walkFrom_40 ⟨(Nat.zero_le _), (Nat.zero_le _)⟩) (fun r40 er40 => ?_)
        try dsimp only at er40
        obtain rfl : r40 = (lN (plc T M t0)) := by
          exact er40
        refine lv_lstore_n (lv' := [(3, .long (lN (plc T M t0))), (2, .int (nI (cde (T 10 (T 8 b0)) (T 11 (T 8 b0)) (braA T (cnt M) b0) (plc T M t0)))), (0, .ref (ad 17)), (1, .int (nI b0))]) hx hb dX4_walkFrom_43 rfl hl (by decide) rfl (fun ls hl => ?_)
        refine lv_aload_n hx hb dX4_walkFrom_44 rfl (lv_at hl 2 rfl) ?_
        refine lv_aload_n hx hb dX4_walkFrom_45 rfl (lv_at hl 2 rfl) ?_
        refine va_get (D := D) (T := TX4) (N := 9) hx hb hts jnX4 hown hK hP 17 (wd_17 y ad cap I J) rfl 4 (by decide) (hts _ fl_X4_36) (fun _ h9 => h9) rfl dX4_walkFrom_46 ?_
        refine lv_iload_n hx hb dX4_walkFrom_49 rfl (lv_at hl 3 rfl) ?_
        refine va_iald (D := D) hx hb hK hP 49 0 (wd_49 y ad cap I J) rfl (vp_in_nI (by omega) (by omega)) dX4_walkFrom_50 ?_
        rw [nI_clamp (n := b0) (by omega)]
        refine lv_topi (fun v50 ev50 => ?_)
        obtain rfl : v50 = (oI (rtB T M b0)) := by
          rw [ev50]; exact (qB _ (by omega)).2
        refine rk_i (run_v (As := [.int (oI (rtB T M b0))]) (rest := []) (b := (ad 17)) hx hb hml hown hO.2 (c_X4_thunkCode l D y ad cap I J hT hW0 hQ0 (oI (rtB T M b0))) k_X4_thunkCode ml_X4_240 ⟨rfl, rfl⟩ ⟨Nat.le_of_ble_eq_true rfl, Nat.le_of_ble_eq_true rfl⟩ (pre_VR hO hP (wd_17 y ad cap I J) rfl) rfl hl.1 rfl (Nat.le_of_ble_eq_true rfl) dX4_walkFrom_51 ⟨(Nat.zero_le _), (Nat.zero_le _)⟩) (fun r51 er51 => ?_)
        try dsimp only at er51
        obtain rfl : r51 = (nI (cde (T 10 (T 0 7)) (T 11 (T 0 7)) (plc T M t0) (labA T (cnt M) (thA M t0).2.1))) := by
          rw [er51, hrt]
          simp only [oI]
          rw [ix_in (by omega) ht0]
          simp only [Option.bind_some, cdT]
          rw [if_pos hh2]
        refine lv_istore (lv' := [(5, .int (nI (cde (T 10 (T 0 7)) (T 11 (T 0 7)) (plc T M t0) (labA T (cnt M) (thA M t0).2.1)))), (3, .long (lN (plc T M t0))), (2, .int (nI (cde (T 10 (T 8 b0)) (T 11 (T 8 b0)) (braA T (cnt M) b0) (plc T M t0)))), (0, .ref (ad 17)), (1, .int (nI b0))]) hx hb dX4_walkFrom_54 hl (by decide) rfl (fun ls hl => ?_)
        refine lv_iload hx hb dX4_walkFrom_56 (lv_at hl 0 rfl) ?_
        refine lv_iconst (v := (-1)) hx hb dX4_walkFrom_58 (by decide) ?_
        refine lv_icmp_ne (tgt := 64) hx hb dX4_walkFrom_59 (by decide) (fun c59 => ?_) (fun c59 => ?_)
        · skip
          refine lv_aload_n hx hb dX4_walkFrom_64 rfl (lv_at hl 3 rfl) ?_
          refine va_get (D := D) (T := TX4) (N := 9) hx hb hts jnX4 hown hK hP 17 (wd_17 y ad cap I J) rfl 0 (by decide) (hts _ fl_X4_12) (fun _ h9 => h9) rfl dX4_walkFrom_65 ?_
          refine va_getN (D := D) (T := TX7) (N := 8) hx hb hts jnX7 hown hK hP 18 (wd_18 y ad cap I J) rfl 2 (by decide) (hts _ fn_X4_150) (fun _ h9 => h9) rfl dX4_walkFrom_68 ?_
          refine lv_aload_n hx hb dX4_walkFrom_71 rfl (lv_at hl 3 rfl) ?_
          refine va_get (D := D) (T := TX4) (N := 9) hx hb hts jnX4 hown hK hP 17 (wd_17 y ad cap I J) rfl 0 (by decide) (hts _ fl_X4_12) (fun _ h9 => h9) rfl dX4_walkFrom_72 ?_
          refine va_getN (D := D) (T := TX7) (N := 8) hx hb hts jnX7 hown hK hP 18 (wd_18 y ad cap I J) rfl 7 (by decide) (hts _ fn_X4_163) (fun _ h9 => h9) rfl dX4_walkFrom_75 ?_
          refine lv_topi (fun v75 ev75 => ?_)
          obtain rfl : v75 = (nI (T 0 7)) := by
            rw [ev75]; exact hT.1.2.2.2.2.2.2.2 htz
          refine lv_lload_n hx hb dX4_walkFrom_78 rfl (lv_at hl 1 rfl) ?_
          refine lv_iload hx hb dX4_walkFrom_79 (lv_at hl 0 rfl) ?_
          refine rk_l (run_vn (As := [.int (nI (T 0 7)), .long (lN (plc T M t0)), .int (nI (cde (T 10 (T 0 7)) (T 11 (T 0 7)) (plc T M t0) (labA T (cnt M) (thA M t0).2.1)))]) (rest := []) (b := (ad 26)) hx hb hml hown hO.2 (c_X2_follow l D y (wd_26 y ad cap I J) (wd_27 y ad cap I J) (wd_28 y ad cap I J) (k0 := T 0 7) (a0 := plc T M t0) (b0 := labA T (cnt M) (thA M t0).2.1) (wTk htz).1 (hT.2.2.2.2 _ (wTk htz).1).1 (hT.2.2.2.2 _ (wTk htz).1).2 (wK _ (wTk htz).1).1 (wTk htz).2 (wK _ (wTk htz).1).2 (by omega) (by have := labA_le hW0 hnM (show (thA M t0).2.1 < T 0 1 from (hTW.1 t0 ht0).2.1); omega) hh2) k_X2_follow mn_X4_236 ⟨rfl, rfl⟩ ⟨Nat.le_of_ble_eq_true rfl, Nat.le_of_ble_eq_true rfl⟩ (pre_VR hO hP (wd_26 y ad cap I J) rfl) rfl hl.1 rfl (Nat.le_of_ble_eq_true rfl) dX4_walkFrom_81 ⟨(Nat.zero_le _), (Nat.zero_le _)⟩) (fun r81 er81 => ?_)
          try dsimp only at er81
          refine W.lret (v := r81) hx hb hr (fun t ht hW => ⟨_, rfl, ?_, ht⟩) (fun _ h => nomatch h) dX4_walkFrom_84
          have hw2 : ¬ wyB T M b0 = 2 := fun h9 => by rw [cdB_none.mpr h9] at hcd; cases hcd
          rw [ix_in (by omega) hb0]
          simp only [wkB]
          rw [if_neg hw2]
          rw [er81, htl]
        · skip
          exact absurd c59 (fun h9 => by have h8 := congrArg Int32.toInt h9; rw [nI_toInt (by have := cde_lt (sh := T 10 (T 0 7)) (a := plc T M t0) (b := labA T (cnt M) (thA M t0).2.1) (wK _ (wTk htz).1).2; omega)] at h8; have h7 : (-1 : Int32).toInt = -1 := rfl; omega)
  · skip
    refine lv_ldc2 (v := (-9223372036854775808)) hx hb hown (hts _ kc_X4_234) dX4_walkFrom_11 ?_
    refine W.lret (v := (-9223372036854775808)) hx hb hr (fun t ht hW => ⟨_, rfl, ?_, ht⟩) (fun _ h => nomatch h) dX4_walkFrom_14
    rw [er2] at c8
    have h9 := hneg.mp c8
    by_cases h8 : ¬ p0 < 0 ∧ ¬ nI (T 0 2) ≤ p0
    · obtain ⟨b0, rfl, hb0⟩ := ix_ok (by omega) h8
      rw [ix_in (by omega) hb0] at h9 ⊢
      have h7 := cdB_none.mp h9
      simp only [wkB]
      rw [if_pos h7]
    · rw [ix_no h8]
      rfl
set_option maxHeartbeats 4000000 in
set_option maxRecDepth 100000 in
theorem c_X4_whatIsAt (l : Launch) (D : va_G) (y : Nat → ClassId) (ad : Nat → Nat) (cap : Nat → Nat) (I : Nat → Nat → Int32) (J : Nat → Nat → Int64) {T : Nat → Nat → Nat} {M : List Th} (hT : RT18 I T) (hW : WF T) (hQ : LQ I J T (cap 0) M) (x0 : Int64) : Met l yX4_whatIsAt [.code yX4_whatIsAt cX4_whatIsAt 4 (some .int)] ({ frames := 1, cells := 0, slots := 0, locals := 24 }) (va_Pc [.ref (ad 17), .long x0] (PR D y (Wd y ad cap I J))) (vp_Si (fun r => r = atB T M x0)) 0 0 (fun _ => False) := by
  refine Met.ofW (cc := cX4_whatIsAt) (maxL := 4) (ret := (some .int)) (by decide) rfl ?_
  intro p e s m args below meth c s₁ B hml hv
  obtain ⟨rfl, hP, hO⟩ := hv
  have hx := B.exec
  have hb := B.bytes
  have hr := B.returns
  have hown : s.vm.findClass RX4 = some m.cls := findClass_of_methodNamed B.named
  have hlocks := B.notSynchronized
  have hK := hO.1
  have hts : ∀ w ∈ lw_E, w.before ([.ref (ad 17), .long x0] : List Value).toArray s = true := fun w h => hO.2 w h _
  clear B
  have hl := lv_entry ([.ref (ad 17), .long x0]) (n := 4) (Nat.le_of_ble_eq_true rfl)
  rw [lg_entry_eq]
  generalize (lg_sl ([.ref (ad 17), .long x0]) ++ List.replicate (4 - (lg_sl ([.ref (ad 17), .long x0])).length) Slot.unset).toArray = ls at hl ⊢
  have hl : lv_has ls 4 [(0, .ref (ad 17)), (1, .long x0)] := hl
  have hW0 := hW
  obtain ⟨⟨w1, w2, w3, w4, w5, w6, w7⟩, wS, wL, wB, wK, wTk, wT0⟩ := hW
  obtain ⟨⟨q1, q2, q3, hTW, htz0⟩, qT, qP, qB, hJ, qE⟩ := hQ
  have hnM : ∀ s, cnt M s ≤ 2400 := fun s => by have := cnt_le M s; omega
  refine lv_lload_n hx hb dX4_whatIsAt_0 rfl (lv_at hl 1 rfl) ?_
  refine lv_aload_n hx hb dX4_whatIsAt_1 rfl (lv_at hl 0 rfl) ?_
  refine va_get (D := D) (T := TX4) (N := 9) hx hb hts jnX4 hown hK hP 17 (wd_17 y ad cap I J) rfl 0 (by decide) (hts _ fl_X4_12) (fun _ h9 => h9) rfl dX4_whatIsAt_2 ?_
  refine va_getN (D := D) (T := TX7) (N := 8) hx hb hts jnX7 hown hK hP 18 (wd_18 y ad cap I J) rfl 4 (by decide) (hts _ fn_X4_210) (fun _ h9 => h9) rfl dX4_whatIsAt_5 ?_
  refine lv_topi (fun v5 ev5 => ?_)
  obtain rfl : v5 = (nI (T 0 4)) := by
    rw [ev5]; exact hT.1.2.2.2.2.1
  refine lv_i2l (v := lN (T 0 4)) hx hb dX4_whatIsAt_8 (nI_l (by omega)) ?_
  refine W.lcmp hx hb dX4_whatIsAt_9 ?_
  refine lv_if_lt (tgt := 25) hx hb dX4_whatIsAt_10 (by decide) (fun c10 => ?_) (fun c10 => ?_)
  · skip
    have c10 := lc_lt.mp c10
    refine lv_iconst (v := (-1)) hx hb dX4_whatIsAt_25 (by decide) ?_
    refine W.iret (v := (-1)) hx hb hr (fun t ht hW => ⟨_, rfl, ?_, ht⟩) (fun _ h => nomatch h) dX4_whatIsAt_26
    unfold atB
    first | (rw [if_pos (Or.inl c10)]; done) | (rw [if_pos (Or.inr c22)]; done)
  · skip
    have c10 := mt lc_lt.mpr c10
    refine lv_lload_n hx hb dX4_whatIsAt_13 rfl (lv_at hl 1 rfl) ?_
    refine lv_aload_n hx hb dX4_whatIsAt_14 rfl (lv_at hl 0 rfl) ?_
    refine va_get (D := D) (T := TX4) (N := 9) hx hb hts jnX4 hown hK hP 17 (wd_17 y ad cap I J) rfl 1 (by decide) (hts _ fl_X4_21) (fun _ h9 => h9) rfl dX4_whatIsAt_15 ?_
    refine va_getN (D := D) (T := TX0) (N := 4) hx hb hts jnX0 hown hK hP 34 (wd_34 y ad cap I J) rfl 3 (by decide) (hts _ fn_X4_206) (fun _ h9 => h9) rfl dX4_whatIsAt_18 ?_
    refine lv_topl (fun v18 ev18 => ?_)
    obtain rfl : v18 = (lN (sAt T (cnt M) (T 0 0))) := by
      rw [ev18]; exact qE
    refine W.lcmp hx hb dX4_whatIsAt_21 ?_
    refine lv_if_lt (tgt := 27) hx hb dX4_whatIsAt_22 (by decide) (fun c22 => ?_) (fun c22 => ?_)
    · skip
      have c22 := lc_lt.mp c22
      refine lv_iconst (v := 0) hx hb dX4_whatIsAt_27 (by decide) ?_
      rw [show (0 : Int32) = (nI 0) from rfl]
      refine lv_istore_n (lv' := [(3, .int (nI 0)), (0, .ref (ad 17)), (1, .long x0)]) hx hb dX4_whatIsAt_28 rfl hl (by decide) rfl (fun ls hl => ?_)
      have loop29 : ∀ (n29 : Nat) (k : Nat) , (k ≤ T 0 0) → (∀ j, j < k → ¬ inS T (cnt M) x0 j = true) → T 0 0 + 1 ≤ k + n29 → ∀ ls : Array Slot, lv_has ls 4 [(0, .ref (ad 17)), (1, .long x0), (3, .int (nI k))] → W p l e (headSpec [.code yX4_whatIsAt cX4_whatIsAt 4 (some .int)] ({ frames := 1, cells := 0, slots := 0, locals := 24 })).room s m ([.ref (ad 17), .long x0] : List Value).toArray below meth c s.heap [] 0 0 (MQ below (vp_Si (fun r => r = atB T M x0)) ([.ref (ad 17), .long x0] : List Value).toArray s 0 0 (fun _ => False)) (F0 m 29 ls []) := by
        intro n29
        induction n29 with
        | zero =>
          intro k hk hS9 hmeas
          exact absurd hmeas (by omega)
        | succ n29 ih29 =>
          intro k hk hS9 hmeas ls hl
          refine lv_iload_n hx hb dX4_whatIsAt_29 rfl (lv_at hl 2 rfl) ?_
          refine lv_aload_n hx hb dX4_whatIsAt_30 rfl (lv_at hl 0 rfl) ?_
          refine va_get (D := D) (T := TX4) (N := 9) hx hb hts jnX4 hown hK hP 17 (wd_17 y ad cap I J) rfl 0 (by decide) (hts _ fl_X4_12) (fun _ h9 => h9) rfl dX4_whatIsAt_31 ?_
          refine va_getN (D := D) (T := TX7) (N := 8) hx hb hts jnX7 hown hK hP 18 (wd_18 y ad cap I J) rfl 0 (by decide) (hts _ fn_X4_115) (fun _ h9 => h9) rfl dX4_whatIsAt_34 ?_
          refine va_getN (D := D) (T := TX5) (N := 5) hx hb hts jnX5 hown hK hP 19 (wd_19 y ad cap I J) rfl 0 (by decide) (hts _ fn_X4_119) (fun _ h9 => h9) rfl dX4_whatIsAt_37 ?_
          refine lv_topi (fun v37 ev37 => ?_)
          obtain rfl : v37 = (nI (T 0 0)) := by
            rw [ev37]; exact hT.1.1
          refine lv_icmp_ge (tgt := 83) hx hb dX4_whatIsAt_40 (by decide) (fun c40 => ?_) (fun c40 => ?_)
          · skip
            have c40 := (nI_leI (a := (T 0 0)) (b := k) (by omega) (by omega)).mp c40
            have hS8 : ∀ j, j < T 0 0 → ¬ inS T (cnt M) x0 j = true := fun j hj => hS9 j (by omega)
            refine lv_iconst (v := 0) hx hb dX4_whatIsAt_83 (by decide) ?_
            rw [show (0 : Int32) = (nI 0) from rfl]
            refine lv_istore_n (lv' := [(3, .int (nI 0)), (0, .ref (ad 17)), (1, .long x0)]) hx hb dX4_whatIsAt_84 rfl hl (by decide) rfl (fun ls hl => ?_)
            have loop85 : ∀ (n85 : Nat) (k : Nat) , (k ≤ M.length) → (∀ j, j < k → ¬ inT T M x0 j = true) → M.length + 1 ≤ k + n85 → ∀ ls : Array Slot, lv_has ls 4 [(0, .ref (ad 17)), (1, .long x0), (3, .int (nI k))] → W p l e (headSpec [.code yX4_whatIsAt cX4_whatIsAt 4 (some .int)] ({ frames := 1, cells := 0, slots := 0, locals := 24 })).room s m ([.ref (ad 17), .long x0] : List Value).toArray below meth c s.heap [] 0 0 (MQ below (vp_Si (fun r => r = atB T M x0)) ([.ref (ad 17), .long x0] : List Value).toArray s 0 0 (fun _ => False)) (F0 m 85 ls []) := by
              intro n85
              induction n85 with
              | zero =>
                intro k hk hT9 hmeas
                exact absurd hmeas (by omega)
              | succ n85 ih85 =>
                intro k hk hT9 hmeas ls hl
                refine lv_iload_n hx hb dX4_whatIsAt_85 rfl (lv_at hl 2 rfl) ?_
                refine lv_aload_n hx hb dX4_whatIsAt_86 rfl (lv_at hl 0 rfl) ?_
                refine va_get (D := D) (T := TX4) (N := 9) hx hb hts jnX4 hown hK hP 17 (wd_17 y ad cap I J) rfl 2 (by decide) (hts _ fl_X4_28) (fun _ h9 => h9) rfl dX4_whatIsAt_87 ?_
                refine va_getN (D := D) (T := TX6) (N := 11) hx hb hts jnX6 hown hK hP 38 (wd_38 y ad cap I J) rfl 0 (by decide) (hts _ fn_X4_217) (fun _ h9 => h9) rfl dX4_whatIsAt_90 ?_
                refine lv_topi (fun v90 ev90 => ?_)
                obtain rfl : v90 = (nI M.length) := by
                  rw [ev90]; exact q1
                refine lv_icmp_ge (tgt := 131) hx hb dX4_whatIsAt_93 (by decide) (fun c93 => ?_) (fun c93 => ?_)
                · skip
                  have c93 := (nI_leI (a := M.length) (b := k) (by omega) (by omega)).mp c93
                  refine lv_iconst (v := 0) hx hb dX4_whatIsAt_131 (by decide) ?_
                  refine W.iret (v := 0) hx hb hr (fun t ht hW => ⟨_, rfl, ?_, ht⟩) (fun _ h => nomatch h) dX4_whatIsAt_132
                  unfold atB
                  rw [if_neg (fun h9 => h9.elim c10 (fun h8 => h8 c22))]
                  rw [fst_none hS8, fst_none (fun j hj => hT9 j (by omega))]
                · skip
                  have c93 := mt (nI_leI (a := M.length) (b := k) (by omega) (by omega)).mpr c93
                  refine lv_lload_n hx hb dX4_whatIsAt_96 rfl (lv_at hl 1 rfl) ?_
                  refine lv_aload_n hx hb dX4_whatIsAt_97 rfl (lv_at hl 0 rfl) ?_
                  refine va_get (D := D) (T := TX4) (N := 9) hx hb hts jnX4 hown hK hP 17 (wd_17 y ad cap I J) rfl 2 (by decide) (hts _ fl_X4_28) (fun _ h9 => h9) rfl dX4_whatIsAt_98 ?_
                  refine va_getN (D := D) (T := TX6) (N := 11) hx hb hts jnX6 hown hK hP 38 (wd_38 y ad cap I J) rfl 8 (by decide) (hts _ fn_X4_179) (fun _ h9 => h9) rfl dX4_whatIsAt_101 ?_
                  refine lv_iload_n hx hb dX4_whatIsAt_104 rfl (lv_at hl 2 rfl) ?_
                  refine va_lald (D := D) hx hb hK hP 45 1 (wd_45 y ad cap I J) rfl (vp_in_nI (by omega) (by omega)) dX4_whatIsAt_105 ?_
                  rw [nI_clamp (n := k) (by omega)]
                  refine lv_topl (fun v105 ev105 => ?_)
                  obtain rfl : v105 = (lN (plc T M k)) := by
                    rw [ev105]; exact qP _ (by omega)
                  refine lv_aload_n hx hb dX4_whatIsAt_106 rfl (lv_at hl 0 rfl) ?_
                  refine va_get (D := D) (T := TX4) (N := 9) hx hb hts jnX4 hown hK hP 17 (wd_17 y ad cap I J) rfl 0 (by decide) (hts _ fl_X4_12) (fun _ h9 => h9) rfl dX4_whatIsAt_107 ?_
                  refine va_getN (D := D) (T := TX7) (N := 8) hx hb hts jnX7 hown hK hP 18 (wd_18 y ad cap I J) rfl 5 (by decide) (hts _ fn_X4_220) (fun _ h9 => h9) rfl dX4_whatIsAt_110 ?_
                  refine lv_topi (fun v110 ev110 => ?_)
                  obtain rfl : v110 = (nI (T 0 5)) := by
                    rw [ev110]; exact hT.1.2.2.2.2.2.1
                  refine rk_i (run_s (As := [.long x0, .long (lN (plc T M k)), .int (nI (T 0 5))]) (rest := []) hx hb hml hown hO.2 (c_X4_isWithin l D y (a0 := plc T M k) (n0 := T 0 5) (by omega) x0) k_X4_isWithin ml_X4_243 ⟨rfl, rfl⟩ ⟨Nat.le_of_ble_eq_true rfl, Nat.le_of_ble_eq_true rfl⟩ (pre_SR hO hP) rfl hl.1 rfl (Nat.le_of_ble_eq_true rfl) dX4_whatIsAt_113 ⟨(Nat.zero_le _), (Nat.zero_le _)⟩) (fun r113 er113 => ?_)
                  try dsimp only at er113
                  refine lv_if_eq (tgt := 125) hx hb dX4_whatIsAt_116 (by decide) (fun c116 => ?_) (fun c116 => ?_)
                  · skip
                    have c116 := if01_z er113 c116
                    refine lv_iinc (v := (nI (k + 1))) (lv' := [(3, .int (nI (k + 1))), (0, .ref (ad 17)), (1, .long x0)]) hx hb dX4_whatIsAt_125 hl (k := 2) rfl (nI_1 _) (by decide) rfl (fun ls hl => ?_)
                    refine lv_goto (tgt := 85) hx hb dX4_whatIsAt_128 (by decide) ?_
                    exact ih85 (k + 1) (by omega) (fun j hj => by rcases Nat.lt_succ_iff_lt_or_eq.mp hj with h9 | h9; exact hT9 j h9; (rw [h9]; unfold inT; rw [decide_eq_true_iff]; exact c116)) (by omega) ls (by exact lv_sub hl [1, 2, 0] rfl)
                  · skip
                    have c116 := if01_n er113 c116
                    refine lv_sipush (v := 2000) hx hb dX4_whatIsAt_119 (by decide) ?_
                    refine lv_iload_n hx hb dX4_whatIsAt_122 rfl (lv_at hl 2 rfl) ?_
                    refine lv_iadd hx hb dX4_whatIsAt_123 ?_
                    refine lv_topi (fun v123 ev123 => ?_)
                    obtain rfl : v123 = (nI (2000 + k)) := by rw [ev123, show (2000 : Int32) = nI 2000 from rfl, nI_add]
                    refine W.iret (v := (nI (2000 + k))) hx hb hr (fun t ht hW => ⟨_, rfl, ?_, ht⟩) (fun _ h => nomatch h) dX4_whatIsAt_124
                    unfold atB
                    rw [if_neg (fun h9 => h9.elim c10 (fun h8 => h8 c22))]
                    rw [fst_none hS8, fst_some (k := k) (by omega) (by unfold inT; rw [decide_eq_true_iff]; exact c116) hT9]
            exact loop85 (M.length + 1) 0 (by omega) (fun j hj => absurd hj (by omega)) (by omega) ls (by exact lv_sub hl [1, 2, 0] rfl)
          · skip
            have c40 := mt (nI_leI (a := (T 0 0)) (b := k) (by omega) (by omega)).mpr c40
            obtain ⟨y3, y4, y5⟩ := wS k (by omega)
            refine lv_lload_n hx hb dX4_whatIsAt_43 rfl (lv_at hl 1 rfl) ?_
            refine lv_aload_n hx hb dX4_whatIsAt_44 rfl (lv_at hl 0 rfl) ?_
            refine va_get (D := D) (T := TX4) (N := 9) hx hb hts jnX4 hown hK hP 17 (wd_17 y ad cap I J) rfl 1 (by decide) (hts _ fl_X4_21) (fun _ h9 => h9) rfl dX4_whatIsAt_45 ?_
            refine va_getN (D := D) (T := TX0) (N := 4) hx hb hts jnX0 hown hK hP 34 (wd_34 y ad cap I J) rfl 0 (by decide) (hts _ fn_X4_190) (fun _ h9 => h9) rfl dX4_whatIsAt_48 ?_
            refine lv_iload_n hx hb dX4_whatIsAt_51 rfl (lv_at hl 2 rfl) ?_
            refine va_lald (D := D) hx hb hK hP 35 1 (wd_35 y ad cap I J) rfl (vp_in_nI (by omega) (by omega)) dX4_whatIsAt_52 ?_
            rw [nI_clamp (n := k) (by omega)]
            refine lv_topl (fun v52 ev52 => ?_)
            obtain rfl : v52 = (lN (sA T (cnt M) k)) := by
              rw [ev52]; exact (hJ _ (by omega)).1
            refine lv_aload_n hx hb dX4_whatIsAt_53 rfl (lv_at hl 0 rfl) ?_
            refine va_get (D := D) (T := TX4) (N := 9) hx hb hts jnX4 hown hK hP 17 (wd_17 y ad cap I J) rfl 0 (by decide) (hts _ fl_X4_12) (fun _ h9 => h9) rfl dX4_whatIsAt_54 ?_
            refine va_getN (D := D) (T := TX7) (N := 8) hx hb hts jnX7 hown hK hP 18 (wd_18 y ad cap I J) rfl 0 (by decide) (hts _ fn_X4_115) (fun _ h9 => h9) rfl dX4_whatIsAt_57 ?_
            refine va_getN (D := D) (T := TX5) (N := 5) hx hb hts jnX5 hown hK hP 19 (wd_19 y ad cap I J) rfl 2 (by decide) (hts _ fn_X4_223) (fun _ h9 => h9) rfl dX4_whatIsAt_60 ?_
            refine lv_iload_n hx hb dX4_whatIsAt_63 rfl (lv_at hl 2 rfl) ?_
            refine va_iald (D := D) hx hb hK hP 20 0 (wd_20 y ad cap I J) rfl (vp_in_nI (by omega) (by omega)) dX4_whatIsAt_64 ?_
            rw [nI_clamp (n := k) (by omega)]
            refine lv_topi (fun v64 ev64 => ?_)
            obtain rfl : v64 = (nI (T 1 k)) := by
              rw [ev64]; exact (hT.2.1 _ (by omega)).1
            refine rk_i (run_s (As := [.long x0, .long (lN (sA T (cnt M) k)), .int (nI (T 1 k))]) (rest := []) hx hb hml hown hO.2 (c_X4_isWithin l D y (a0 := sA T (cnt M) k) (n0 := T 1 k) (by omega) x0) k_X4_isWithin ml_X4_243 ⟨rfl, rfl⟩ ⟨Nat.le_of_ble_eq_true rfl, Nat.le_of_ble_eq_true rfl⟩ (pre_SR hO hP) rfl hl.1 rfl (Nat.le_of_ble_eq_true rfl) dX4_whatIsAt_65 ⟨(Nat.zero_le _), (Nat.zero_le _)⟩) (fun r65 er65 => ?_)
            try dsimp only at er65
            refine lv_if_eq (tgt := 77) hx hb dX4_whatIsAt_68 (by decide) (fun c68 => ?_) (fun c68 => ?_)
            · skip
              have c68 := if01_z er65 c68
              refine lv_iinc (v := (nI (k + 1))) (lv' := [(3, .int (nI (k + 1))), (0, .ref (ad 17)), (1, .long x0)]) hx hb dX4_whatIsAt_77 hl (k := 2) rfl (nI_1 _) (by decide) rfl (fun ls hl => ?_)
              refine lv_goto (tgt := 29) hx hb dX4_whatIsAt_80 (by decide) ?_
              exact ih29 (k + 1) (by omega) (fun j hj => by rcases Nat.lt_succ_iff_lt_or_eq.mp hj with h9 | h9; exact hS9 j h9; (rw [h9]; unfold inS; rw [decide_eq_true_iff]; exact c68)) (by omega) ls (by exact lv_sub hl [1, 2, 0] rfl)
            · skip
              have c68 := if01_n er65 c68
              refine lv_sipush (v := 1000) hx hb dX4_whatIsAt_71 (by decide) ?_
              refine lv_iload_n hx hb dX4_whatIsAt_74 rfl (lv_at hl 2 rfl) ?_
              refine lv_iadd hx hb dX4_whatIsAt_75 ?_
              refine lv_topi (fun v75 ev75 => ?_)
              obtain rfl : v75 = (nI (1000 + k)) := by rw [ev75, show (1000 : Int32) = nI 1000 from rfl, nI_add]
              refine W.iret (v := (nI (1000 + k))) hx hb hr (fun t ht hW => ⟨_, rfl, ?_, ht⟩) (fun _ h => nomatch h) dX4_whatIsAt_76
              unfold atB
              rw [if_neg (fun h9 => h9.elim c10 (fun h8 => h8 c22))]
              rw [fst_some (k := k) (by omega) (by unfold inS; rw [decide_eq_true_iff]; exact c68) hS9]
      exact loop29 (T 0 0 + 1) 0 (by omega) (fun j hj => absurd hj (by omega)) (by omega) ls (by exact lv_sub hl [1, 2, 0] rfl)
    · skip
      have c22 := mt lc_lt.mpr c22
      refine lv_iconst (v := (-1)) hx hb dX4_whatIsAt_25 (by decide) ?_
      refine W.iret (v := (-1)) hx hb hr (fun t ht hW => ⟨_, rfl, ?_, ht⟩) (fun _ h => nomatch h) dX4_whatIsAt_26
      unfold atB
      first | (rw [if_pos (Or.inl c10)]; done) | (rw [if_pos (Or.inr c22)]; done)
set_option maxHeartbeats 4000000 in
set_option maxRecDepth 100000 in
theorem c_X6_unused (l : Launch) (D : va_G) (y : Nat → ClassId) (ad : Nat → Nat) (cap : Nat → Nat) (I : Nat → Nat → Int32) (J : Nat → Nat → Int64) {T : Nat → Nat → Nat} {M : List Th} (hT : RT18 I T) (hW : WF T) (hQ : LQ I J T (cap 0) M) : Met l yX6_unused [.code yX6_unused cX6_unused 3 (some .int)] ({ frames := 0, cells := 0, slots := 0, locals := 0 }) (va_Pc [.ref (ad 38)] (PR D y (Wd y ad cap I J))) (vp_Si (fun r => r = nI (nuls (fun t => us T M t (T 0 2)) M.length))) 0 0 (fun _ => False) := by
  refine Met.ofW (cc := cX6_unused) (maxL := 3) (ret := (some .int)) (by decide) rfl ?_
  intro p e s m args below meth c s₁ B hml hv
  obtain ⟨rfl, hP, hO⟩ := hv
  have hx := B.exec
  have hb := B.bytes
  have hr := B.returns
  have hown : s.vm.findClass RX6 = some m.cls := findClass_of_methodNamed B.named
  have hlocks := B.notSynchronized
  have hK := hO.1
  have hts : ∀ w ∈ lw_E, w.before ([.ref (ad 38)] : List Value).toArray s = true := fun w h => hO.2 w h _
  clear B
  have hl := lv_entry ([.ref (ad 38)]) (n := 3) (Nat.le_of_ble_eq_true rfl)
  rw [lg_entry_eq]
  generalize (lg_sl ([.ref (ad 38)]) ++ List.replicate (3 - (lg_sl ([.ref (ad 38)])).length) Slot.unset).toArray = ls at hl ⊢
  have hl : lv_has ls 3 [(0, .ref (ad 38))] := hl
  have hW0 := hW
  obtain ⟨⟨w1, w2, w3, w4, w5, w6, w7⟩, wS, wL, wB, wK, wTk, wT0⟩ := hW
  obtain ⟨⟨q1, q2, q3, hTW, htz0⟩, qT, qP, qB, hJ, qE⟩ := hQ
  have hnM : ∀ s, cnt M s ≤ 2400 := fun s => by have := cnt_le M s; omega
  refine lv_iconst (v := 0) hx hb dX6_unused_0 (by decide) ?_
  rw [show (0 : Int32) = (nI (nuls (fun t => us T M t (T 0 2)) 0)) from rfl]
  refine lv_istore_n (lv' := [(1, .int (nI (nuls (fun t => us T M t (T 0 2)) 0))), (0, .ref (ad 38))]) hx hb dX6_unused_1 rfl hl (by decide) rfl (fun ls hl => ?_)
  refine lv_iconst (v := 0) hx hb dX6_unused_2 (by decide) ?_
  rw [show (0 : Int32) = (nI 0) from rfl]
  refine lv_istore_n (lv' := [(2, .int (nI 0)), (1, .int (nI (nuls (fun t => us T M t (T 0 2)) 0))), (0, .ref (ad 38))]) hx hb dX6_unused_3 rfl hl (by decide) rfl (fun ls hl => ?_)
  have loop4 : ∀ (n4 : Nat) (k : Nat) , (k ≤ M.length) → M.length + 1 ≤ k + n4 → ∀ ls : Array Slot, lv_has ls 3 [(0, .ref (ad 38)), (1, .int (nI (nuls (fun t => us T M t (T 0 2)) k))), (2, .int (nI k))] → W p l e (headSpec [.code yX6_unused cX6_unused 3 (some .int)] ({ frames := 0, cells := 0, slots := 0, locals := 0 })).room s m ([.ref (ad 38)] : List Value).toArray below meth c s.heap [] 0 0 (MQ below (vp_Si (fun r => r = nI (nuls (fun t => us T M t (T 0 2)) M.length))) ([.ref (ad 38)] : List Value).toArray s 0 0 (fun _ => False)) (F0 m 4 ls []) := by
    intro n4
    induction n4 with
    | zero =>
      intro k hk hmeas
      exact absurd hmeas (by omega)
    | succ n4 ih4 =>
      intro k hk hmeas ls hl
      refine lv_iload_n hx hb dX6_unused_4 rfl (lv_at hl 2 rfl) ?_
      refine lv_aload_n hx hb dX6_unused_5 rfl (lv_at hl 0 rfl) ?_
      refine va_get (D := D) (T := TX6) (N := 11) hx hb hts jnX6 hown hK hP 38 (wd_38 y ad cap I J) rfl 0 (by decide) (hts _ fl_X6_9) (fun _ h9 => h9) rfl dX6_unused_6 ?_
      refine lv_topi (fun v6 ev6 => ?_)
      obtain rfl : v6 = (nI M.length) := by
        rw [ev6]; exact q1
      refine lv_icmp_ge (tgt := 30) hx hb dX6_unused_9 (by decide) (fun c9 => ?_) (fun c9 => ?_)
      · skip
        have c9 := (nI_leI (a := M.length) (b := k) (by omega) (by omega)).mp c9
        refine lv_iload_n hx hb dX6_unused_30 rfl (lv_at hl 1 rfl) ?_
        refine W.iret (v := (nI (nuls (fun t => us T M t (T 0 2)) k))) hx hb hr (fun t ht hW => ⟨_, rfl, ?_, ht⟩) (fun _ h => nomatch h) dX6_unused_31
        have : k = M.length := by omega
        rw [this]
      · skip
        have c9 := mt (nI_leI (a := M.length) (b := k) (by omega) (by omega)).mpr c9
        have hul := us_le T M k (T 0 2)
        refine lv_aload_n hx hb dX6_unused_12 rfl (lv_at hl 0 rfl) ?_
        refine va_get (D := D) (T := TX6) (N := 11) hx hb hts jnX6 hown hK hP 38 (wd_38 y ad cap I J) rfl 6 (by decide) (hts _ fl_X6_31) (fun _ h9 => h9) rfl dX6_unused_13 ?_
        refine lv_iload_n hx hb dX6_unused_16 rfl (lv_at hl 2 rfl) ?_
        refine va_iald (D := D) hx hb hK hP 43 0 (wd_43 y ad cap I J) rfl (vp_in_nI (by omega) (by omega)) dX6_unused_17 ?_
        rw [nI_clamp (n := k) (by omega)]
        refine lv_topi (fun v17 ev17 => ?_)
        obtain rfl : v17 = (nI (us T M k (T 0 2))) := by
          rw [ev17]; exact (qT _ (by omega)).2.2.2.2.1
        refine lv_if_ne (tgt := 24) hx hb dX6_unused_18 (by decide) (fun c18 => ?_) (fun c18 => ?_)
        · skip
          have eN : nuls (fun t => us T M t (T 0 2)) (k + 1) = nuls (fun t => us T M t (T 0 2)) k := by simp only [nuls]; rw [if_neg (fun h9 => c18 (by rw [h9]; rfl))]; rfl
          refine lv_iinc (v := (nI (k + 1))) (lv' := [(2, .int (nI (k + 1))), (0, .ref (ad 38)), (1, .int (nI (nuls (fun t => us T M t (T 0 2)) k)))]) hx hb dX6_unused_24 hl (k := 2) rfl (nI_1 _) (by decide) rfl (fun ls hl => ?_)
          refine lv_goto (tgt := 4) hx hb dX6_unused_27 (by decide) ?_
          exact ih4 (k + 1) (by omega) (by omega) ls (by rw [show nuls (fun t => us T M t (T 0 2)) (k + 1) = nuls (fun t => us T M t (T 0 2)) k from eN]; exact lv_sub hl [1, 2, 0] rfl)
        · skip
          have eN : nuls (fun t => us T M t (T 0 2)) (k + 1) = nuls (fun t => us T M t (T 0 2)) k + 1 := by simp only [nuls]; rw [if_pos ((nI_z (by omega)).mp c18)]
          refine lv_iinc (v := (nI ((nuls (fun t => us T M t (T 0 2)) k) + 1))) (lv' := [(1, .int (nI ((nuls (fun t => us T M t (T 0 2)) k) + 1))), (0, .ref (ad 38)), (2, .int (nI k))]) hx hb dX6_unused_21 hl (k := 1) rfl (nI_1 _) (by decide) rfl (fun ls hl => ?_)
          refine lv_iinc (v := (nI (k + 1))) (lv' := [(2, .int (nI (k + 1))), (1, .int (nI ((nuls (fun t => us T M t (T 0 2)) k) + 1))), (0, .ref (ad 38))]) hx hb dX6_unused_24 hl (k := 2) rfl (nI_1 _) (by decide) rfl (fun ls hl => ?_)
          refine lv_goto (tgt := 4) hx hb dX6_unused_27 (by decide) ?_
          exact ih4 (k + 1) (by omega) (by omega) ls (by rw [show nuls (fun t => us T M t (T 0 2)) (k + 1) = (nuls (fun t => us T M t (T 0 2)) k) + 1 from eN]; exact lv_sub hl [2, 1, 0] rfl)
  exact loop4 (M.length + 1) 0 (by omega) (by omega) ls (by exact lv_sub hl [2, 1, 0] rfl)
