set_option maxHeartbeats 4000000 in
set_option maxRecDepth 100000 in
theorem c_X4_isWithin (l : Launch) (D : va_G) (y : Nat → ClassId) {ws : va_W} {a0 n0 : Nat} (hn0 : n0 < 2 ^ 31) (x0 : Int64) : Met l yX4_isWithin [.code yX4_isWithin cX4_isWithin 5 (some .boolean)] ({ frames := 0, cells := 0, slots := 0, locals := 0 }) (va_Pc [.long x0, .long (lN a0), .int (nI n0)] (PR D y ws)) (vp_Si (fun r => r = if ¬ x0 < lN a0 ∧ x0 < lN (a0 + n0) then 1 else 0)) 0 0 (fun _ => False) := by
  refine Met.ofW (cc := cX4_isWithin) (maxL := 5) (ret := (some .boolean)) (by decide) rfl ?_
  intro p e s m args below meth c s₁ B hml hv
  obtain ⟨rfl, hP, hO⟩ := hv
  have hx := B.exec
  have hb := B.bytes
  have hr := B.returns
  have hown : s.vm.findClass RX4 = some m.cls := findClass_of_methodNamed B.named
  have hlocks := B.notSynchronized
  have hK := hO.1
  have hts : ∀ w ∈ lw_E, w.before ([.long x0, .long (lN a0), .int (nI n0)] : List Value).toArray s = true := fun w h => hO.2 w h _
  clear B
  have hl := lv_entry ([.long x0, .long (lN a0), .int (nI n0)]) (n := 5) (Nat.le_of_ble_eq_true rfl)
  rw [lg_entry_eq]
  generalize (lg_sl ([.long x0, .long (lN a0), .int (nI n0)]) ++ List.replicate (5 - (lg_sl ([.long x0, .long (lN a0), .int (nI n0)])).length) Slot.unset).toArray = ls at hl ⊢
  have hl : lv_has ls 5 [(0, .long x0), (2, .long (lN a0)), (4, .int (nI n0))] := hl
  refine lv_lload_n hx hb dX4_isWithin_0 rfl (lv_at hl 0 rfl) ?_
  refine lv_lload_n hx hb dX4_isWithin_1 rfl (lv_at hl 1 rfl) ?_
  refine W.lcmp hx hb dX4_isWithin_2 ?_
  refine lv_if_lt (tgt := 20) hx hb dX4_isWithin_3 (by decide) (fun c3 => ?_) (fun c3 => ?_)
  · skip
    have c3 := lc_lt.mp c3
    refine lv_iconst (v := 0) hx hb dX4_isWithin_20 (by decide) ?_
    refine W.zret (v := 0) hx hb hr (by decide) (fun t ht hW => ⟨_, rfl, ?_, ht⟩) (fun _ h => nomatch h) dX4_isWithin_21
    first | (rw [if_pos ⟨c3, Int64.not_le.mp c13⟩]; done) | (rw [if_neg (fun h9 => h9.1 c3)]; done) | (rw [if_neg (fun h9 => absurd h9.2 (Int64.not_lt.mpr c13))]; done)
  · skip
    have c3 := mt lc_lt.mpr c3
    refine lv_lload_n hx hb dX4_isWithin_6 rfl (lv_at hl 0 rfl) ?_
    refine lv_lload_n hx hb dX4_isWithin_7 rfl (lv_at hl 1 rfl) ?_
    refine lv_iload hx hb dX4_isWithin_8 (lv_at hl 2 rfl) ?_
    refine lv_i2l (v := lN n0) hx hb dX4_isWithin_10 (nI_l (by omega)) ?_
    refine lv_ladd hx hb dX4_isWithin_11 ?_
    refine lv_topl (fun v11 ev11 => ?_)
    obtain rfl : v11 = (lN (a0 + n0)) := by rw [ev11, lN_add]
    refine W.lcmp hx hb dX4_isWithin_12 ?_
    refine lv_if_ge (tgt := 20) hx hb dX4_isWithin_13 (by decide) (fun c13 => ?_) (fun c13 => ?_)
    · skip
      have c13 := lc_ge.mp c13
      refine lv_iconst (v := 0) hx hb dX4_isWithin_20 (by decide) ?_
      refine W.zret (v := 0) hx hb hr (by decide) (fun t ht hW => ⟨_, rfl, ?_, ht⟩) (fun _ h => nomatch h) dX4_isWithin_21
      first | (rw [if_pos ⟨c3, Int64.not_le.mp c13⟩]; done) | (rw [if_neg (fun h9 => h9.1 c3)]; done) | (rw [if_neg (fun h9 => absurd h9.2 (Int64.not_lt.mpr c13))]; done)
    · skip
      have c13 := mt lc_ge.mpr c13
      refine lv_iconst (v := 1) hx hb dX4_isWithin_16 (by decide) ?_
      refine lv_goto (tgt := 21) hx hb dX4_isWithin_17 (by decide) ?_
      refine W.zret (v := 1) hx hb hr (by decide) (fun t ht hW => ⟨_, rfl, ?_, ht⟩) (fun _ h => nomatch h) dX4_isWithin_21
      first | (rw [if_pos ⟨c3, Int64.not_le.mp c13⟩]; done) | (rw [if_neg (fun h9 => h9.1 c3)]; done) | (rw [if_neg (fun h9 => absurd h9.2 (Int64.not_lt.mpr c13))]; done)
set_option maxHeartbeats 4000000 in
set_option maxRecDepth 100000 in
theorem c_X4_bytesInAll (l : Launch) (D : va_G) (y : Nat → ClassId) (ad : Nat → Nat) (cap : Nat → Nat) (I : Nat → Nat → Int32) (J : Nat → Nat → Int64) {T : Nat → Nat → Nat} {M : List Th} (hT : RT18 I T) (hW : WF T) (hQ : LQ I J T (cap 0) M) : Met l yX4_bytesInAll [.code yX4_bytesInAll cX4_bytesInAll 1 (some .int)] ({ frames := 0, cells := 0, slots := 0, locals := 0 }) (va_Pc [.ref (ad 17)] (PR D y (Wd y ad cap I J))) (vp_Si (fun r => r = nI (sAt T (cnt M) (T 0 0) - T 0 4))) 0 0 (fun _ => False) := by
  refine Met.ofW (cc := cX4_bytesInAll) (maxL := 1) (ret := (some .int)) (by decide) rfl ?_
  intro p e s m args below meth c s₁ B hml hv
  obtain ⟨rfl, hP, hO⟩ := hv
  have hx := B.exec
  have hb := B.bytes
  have hr := B.returns
  have hown : s.vm.findClass RX4 = some m.cls := findClass_of_methodNamed B.named
  have hlocks := B.notSynchronized
  have hK := hO.1
  have hts : ∀ w ∈ lw_E, w.before ([.ref (ad 17)] : List Value).toArray s = true := fun w h => hO.2 w h _
  clear B
  have hl := lv_entry ([.ref (ad 17)]) (n := 1) (Nat.le_of_ble_eq_true rfl)
  rw [lg_entry_eq]
  generalize (lg_sl ([.ref (ad 17)]) ++ List.replicate (1 - (lg_sl ([.ref (ad 17)])).length) Slot.unset).toArray = ls at hl ⊢
  have hl : lv_has ls 1 [(0, .ref (ad 17))] := hl
  have hW0 := hW
  obtain ⟨⟨w1, w2, w3, w4, w5, w6, w7⟩, wS, wL, wB, wK, wTk, wT0⟩ := hW
  obtain ⟨⟨q1, q2, q3, hTW, htz0⟩, qT, qP, qB, hJ, qE⟩ := hQ
  have hnM : ∀ s, cnt M s ≤ 2400 := fun s => by have := cnt_le M s; omega
  refine lv_aload_n hx hb dX4_bytesInAll_0 rfl (lv_at hl 0 rfl) ?_
  refine va_get (D := D) (T := TX4) (N := 9) hx hb hts jnX4 hown hK hP 17 (wd_17 y ad cap I J) rfl 1 (by decide) (hts _ fl_X4_21) (fun _ h9 => h9) rfl dX4_bytesInAll_1 ?_
  refine va_getN (D := D) (T := TX0) (N := 4) hx hb hts jnX0 hown hK hP 34 (wd_34 y ad cap I J) rfl 3 (by decide) (hts _ fn_X4_206) (fun _ h9 => h9) rfl dX4_bytesInAll_4 ?_
  refine lv_topl (fun v4 ev4 => ?_)
  obtain rfl : v4 = (lN (sAt T (cnt M) (T 0 0))) := by
    rw [ev4]; exact qE
  refine lv_aload_n hx hb dX4_bytesInAll_7 rfl (lv_at hl 0 rfl) ?_
  refine va_get (D := D) (T := TX4) (N := 9) hx hb hts jnX4 hown hK hP 17 (wd_17 y ad cap I J) rfl 0 (by decide) (hts _ fl_X4_12) (fun _ h9 => h9) rfl dX4_bytesInAll_8 ?_
  refine va_getN (D := D) (T := TX7) (N := 8) hx hb hts jnX7 hown hK hP 18 (wd_18 y ad cap I J) rfl 4 (by decide) (hts _ fn_X4_210) (fun _ h9 => h9) rfl dX4_bytesInAll_11 ?_
  refine lv_topi (fun v11 ev11 => ?_)
  obtain rfl : v11 = (nI (T 0 4)) := by
    rw [ev11]; exact hT.1.2.2.2.2.1
  refine lv_i2l (v := lN (T 0 4)) hx hb dX4_bytesInAll_14 (nI_l (by omega)) ?_
  refine lv_lsub hx hb dX4_bytesInAll_15 ?_
  refine lv_topl (fun v15 ev15 => ?_)
  refine lv_l2i hx hb dX4_bytesInAll_16 rfl ?_
  refine lv_topi (fun v16 ev16 => ?_)
  refine W.iret (v := v16) hx hb hr (fun t ht hW => ⟨_, rfl, ?_, ht⟩) (fun _ h => nomatch h) dX4_bytesInAll_17
  subst_vars
  rw [lN_sub (sAt_ge _), lN_i]
set_option maxHeartbeats 4000000 in
set_option maxRecDepth 100000 in
theorem c_X4_bytesBetween (l : Launch) (D : va_G) (y : Nat → ClassId) (ad : Nat → Nat) (cap : Nat → Nat) (I : Nat → Nat → Int32) (J : Nat → Nat → Int64) {T : Nat → Nat → Nat} {M : List Th} (hT : RT18 I T) (hW : WF T) (hQ : LQ I J T (cap 0) M) : Met l yX4_bytesBetween [.code yX4_bytesBetween cX4_bytesBetween 3 (some .int)] ({ frames := 1, cells := 0, slots := 0, locals := 20 }) (va_Pc [.ref (ad 17)] (PR D y (Wd y ad cap I J))) (vp_Si (fun r => r = iN ((sAt T (cnt M) (T 0 0) : Int) - T 0 4 - M.length * T 0 5 - ((sumS T (T 0 0) : Nat) : Int)))) 0 0 (fun _ => False) := by
  refine Met.ofW (cc := cX4_bytesBetween) (maxL := 3) (ret := (some .int)) (by decide) rfl ?_
  intro p e s m args below meth c s₁ B hml hv
  obtain ⟨rfl, hP, hO⟩ := hv
  have hx := B.exec
  have hb := B.bytes
  have hr := B.returns
  have hown : s.vm.findClass RX4 = some m.cls := findClass_of_methodNamed B.named
  have hlocks := B.notSynchronized
  have hK := hO.1
  have hts : ∀ w ∈ lw_E, w.before ([.ref (ad 17)] : List Value).toArray s = true := fun w h => hO.2 w h _
  clear B
  have hl := lv_entry ([.ref (ad 17)]) (n := 3) (Nat.le_of_ble_eq_true rfl)
  rw [lg_entry_eq]
  generalize (lg_sl ([.ref (ad 17)]) ++ List.replicate (3 - (lg_sl ([.ref (ad 17)])).length) Slot.unset).toArray = ls at hl ⊢
  have hl : lv_has ls 3 [(0, .ref (ad 17))] := hl
  have hW0 := hW
  obtain ⟨⟨w1, w2, w3, w4, w5, w6, w7⟩, wS, wL, wB, wK, wTk, wT0⟩ := hW
  have hQ0 := hQ
  obtain ⟨⟨q1, q2, q3, hTW, htz0⟩, qT, qP, qB, hJ, qE⟩ := hQ
  have hnM : ∀ s, cnt M s ≤ 2400 := fun s => by have := cnt_le M s; omega
  refine lv_aload_n hx hb dX4_bytesBetween_0 rfl (lv_at hl 0 rfl) ?_
  refine rk_i (run_v (As := []) (rest := []) (b := (ad 17)) hx hb hml hown hO.2 (c_X4_bytesInAll l D y ad cap I J hT hW0 hQ0) k_X4_bytesInAll ml_X4_213 ⟨rfl, rfl⟩ ⟨Nat.le_of_ble_eq_true rfl, Nat.le_of_ble_eq_true rfl⟩ (pre_VR hO hP (wd_17 y ad cap I J) rfl) rfl hl.1 rfl (Nat.le_of_ble_eq_true rfl) dX4_bytesBetween_1 ⟨(Nat.zero_le _), (Nat.zero_le _)⟩) (fun r1 er1 => ?_)
  try dsimp only at er1
  obtain rfl : r1 = (nI (sAt T (cnt M) (T 0 0) - T 0 4)) := by
    exact er1
  refine lv_aload_n hx hb dX4_bytesBetween_4 rfl (lv_at hl 0 rfl) ?_
  refine va_get (D := D) (T := TX4) (N := 9) hx hb hts jnX4 hown hK hP 17 (wd_17 y ad cap I J) rfl 2 (by decide) (hts _ fl_X4_28) (fun _ h9 => h9) rfl dX4_bytesBetween_5 ?_
  refine va_getN (D := D) (T := TX6) (N := 11) hx hb hts jnX6 hown hK hP 38 (wd_38 y ad cap I J) rfl 0 (by decide) (hts _ fn_X4_217) (fun _ h9 => h9) rfl dX4_bytesBetween_8 ?_
  refine lv_topi (fun v8 ev8 => ?_)
  obtain rfl : v8 = (nI M.length) := by
    rw [ev8]; exact q1
  refine lv_aload_n hx hb dX4_bytesBetween_11 rfl (lv_at hl 0 rfl) ?_
  refine va_get (D := D) (T := TX4) (N := 9) hx hb hts jnX4 hown hK hP 17 (wd_17 y ad cap I J) rfl 0 (by decide) (hts _ fl_X4_12) (fun _ h9 => h9) rfl dX4_bytesBetween_12 ?_
  refine va_getN (D := D) (T := TX7) (N := 8) hx hb hts jnX7 hown hK hP 18 (wd_18 y ad cap I J) rfl 5 (by decide) (hts _ fn_X4_220) (fun _ h9 => h9) rfl dX4_bytesBetween_15 ?_
  refine lv_topi (fun v15 ev15 => ?_)
  obtain rfl : v15 = (nI (T 0 5)) := by
    rw [ev15]; exact hT.1.2.2.2.2.2.1
  refine lv_imul hx hb dX4_bytesBetween_18 ?_
  refine lv_topi (fun v18 ev18 => ?_)
  obtain rfl : v18 = (nI (M.length * T 0 5)) := by
    rw [ev18, pk_mul]
  refine lv_isub hx hb dX4_bytesBetween_19 ?_
  refine lv_topi (fun v19 ev19 => ?_)
  obtain rfl : v19 = (iN (((sAt T (cnt M) (T 0 0) : Int) - T 0 4 - M.length * T 0 5) - ((sumS T 0 : Nat) : Int))) := by
    have h9 := sAt_ge (T := T) (n := cnt M) (T 0 0)
    rw [ev19, nI_iN, nI_iN, iN_sub]
    congr 1
    simp only [sumS]
    rw [Int.ofNat_sub h9]
    simp
  refine lv_istore_n (lv' := [(1, .int (iN (((sAt T (cnt M) (T 0 0) : Int) - T 0 4 - M.length * T 0 5) - ((sumS T 0 : Nat) : Int)))), (0, .ref (ad 17))]) hx hb dX4_bytesBetween_20 rfl hl (by decide) rfl (fun ls hl => ?_)
  refine lv_iconst (v := 0) hx hb dX4_bytesBetween_21 (by decide) ?_
  rw [show (0 : Int32) = (nI 0) from rfl]
  refine lv_istore_n (lv' := [(2, .int (nI 0)), (1, .int (iN (((sAt T (cnt M) (T 0 0) : Int) - T 0 4 - M.length * T 0 5) - ((sumS T 0 : Nat) : Int)))), (0, .ref (ad 17))]) hx hb dX4_bytesBetween_22 rfl hl (by decide) rfl (fun ls hl => ?_)
  have loop23 : ∀ (n23 : Nat) (k : Nat) , (k ≤ T 0 0) → T 0 0 + 1 ≤ k + n23 → ∀ ls : Array Slot, lv_has ls 3 [(0, .ref (ad 17)), (1, .int (iN (((sAt T (cnt M) (T 0 0) : Int) - T 0 4 - M.length * T 0 5) - ((sumS T k : Nat) : Int)))), (2, .int (nI k))] → W p l e (headSpec [.code yX4_bytesBetween cX4_bytesBetween 3 (some .int)] ({ frames := 1, cells := 0, slots := 0, locals := 20 })).room s m ([.ref (ad 17)] : List Value).toArray below meth c s.heap [] 0 0 (MQ below (vp_Si (fun r => r = iN ((sAt T (cnt M) (T 0 0) : Int) - T 0 4 - M.length * T 0 5 - ((sumS T (T 0 0) : Nat) : Int)))) ([.ref (ad 17)] : List Value).toArray s 0 0 (fun _ => False)) (F0 m 23 ls []) := by
    intro n23
    induction n23 with
    | zero =>
      intro k hk hmeas
      exact absurd hmeas (by omega)
    | succ n23 ih23 =>
      intro k hk hmeas ls hl
      refine lv_iload_n hx hb dX4_bytesBetween_23 rfl (lv_at hl 2 rfl) ?_
      refine lv_aload_n hx hb dX4_bytesBetween_24 rfl (lv_at hl 0 rfl) ?_
      refine va_get (D := D) (T := TX4) (N := 9) hx hb hts jnX4 hown hK hP 17 (wd_17 y ad cap I J) rfl 0 (by decide) (hts _ fl_X4_12) (fun _ h9 => h9) rfl dX4_bytesBetween_25 ?_
      refine va_getN (D := D) (T := TX7) (N := 8) hx hb hts jnX7 hown hK hP 18 (wd_18 y ad cap I J) rfl 0 (by decide) (hts _ fn_X4_115) (fun _ h9 => h9) rfl dX4_bytesBetween_28 ?_
      refine va_getN (D := D) (T := TX5) (N := 5) hx hb hts jnX5 hown hK hP 19 (wd_19 y ad cap I J) rfl 0 (by decide) (hts _ fn_X4_119) (fun _ h9 => h9) rfl dX4_bytesBetween_31 ?_
      refine lv_topi (fun v31 ev31 => ?_)
      obtain rfl : v31 = (nI (T 0 0)) := by
        rw [ev31]; exact hT.1.1
      refine lv_icmp_ge (tgt := 58) hx hb dX4_bytesBetween_34 (by decide) (fun c34 => ?_) (fun c34 => ?_)
      · skip
        have c34 := (nI_leI (a := (T 0 0)) (b := k) (by omega) (by omega)).mp c34
        refine lv_iload_n hx hb dX4_bytesBetween_58 rfl (lv_at hl 1 rfl) ?_
        refine W.iret (v := (iN (((sAt T (cnt M) (T 0 0) : Int) - T 0 4 - M.length * T 0 5) - ((sumS T k : Nat) : Int)))) hx hb hr (fun t ht hW => ⟨_, rfl, ?_, ht⟩) (fun _ h => nomatch h) dX4_bytesBetween_59
        have : k = T 0 0 := by omega
        rw [this]
      · skip
        have c34 := mt (nI_leI (a := (T 0 0)) (b := k) (by omega) (by omega)).mpr c34
        refine lv_iload_n hx hb dX4_bytesBetween_37 rfl (lv_at hl 1 rfl) ?_
        refine lv_aload_n hx hb dX4_bytesBetween_38 rfl (lv_at hl 0 rfl) ?_
        refine va_get (D := D) (T := TX4) (N := 9) hx hb hts jnX4 hown hK hP 17 (wd_17 y ad cap I J) rfl 0 (by decide) (hts _ fl_X4_12) (fun _ h9 => h9) rfl dX4_bytesBetween_39 ?_
        refine va_getN (D := D) (T := TX7) (N := 8) hx hb hts jnX7 hown hK hP 18 (wd_18 y ad cap I J) rfl 0 (by decide) (hts _ fn_X4_115) (fun _ h9 => h9) rfl dX4_bytesBetween_42 ?_
        refine va_getN (D := D) (T := TX5) (N := 5) hx hb hts jnX5 hown hK hP 19 (wd_19 y ad cap I J) rfl 2 (by decide) (hts _ fn_X4_223) (fun _ h9 => h9) rfl dX4_bytesBetween_45 ?_
        refine lv_iload_n hx hb dX4_bytesBetween_48 rfl (lv_at hl 2 rfl) ?_
        refine va_iald (D := D) hx hb hK hP 20 0 (wd_20 y ad cap I J) rfl (vp_in_nI (by omega) (by omega)) dX4_bytesBetween_49 ?_
        rw [nI_clamp (n := k) (by omega)]
        refine lv_topi (fun v49 ev49 => ?_)
        obtain rfl : v49 = (nI (T 1 k)) := by
          rw [ev49]; exact (hT.2.1 _ (by omega)).1
        refine lv_isub hx hb dX4_bytesBetween_50 ?_
        refine lv_topi (fun v50 ev50 => ?_)
        obtain rfl : v50 = (iN (((sAt T (cnt M) (T 0 0) : Int) - T 0 4 - M.length * T 0 5) - ((sumS T (k + 1) : Nat) : Int))) := by
          rw [ev50, nI_iN, iN_sub]
          congr 1
          simp only [sumS]
          omega
        refine lv_istore_n (lv' := [(1, .int (iN (((sAt T (cnt M) (T 0 0) : Int) - T 0 4 - M.length * T 0 5) - ((sumS T (k + 1) : Nat) : Int)))), (0, .ref (ad 17)), (2, .int (nI k))]) hx hb dX4_bytesBetween_51 rfl hl (by decide) rfl (fun ls hl => ?_)
        refine lv_iinc (v := (nI (k + 1))) (lv' := [(2, .int (nI (k + 1))), (1, .int (iN (((sAt T (cnt M) (T 0 0) : Int) - T 0 4 - M.length * T 0 5) - ((sumS T (k + 1) : Nat) : Int)))), (0, .ref (ad 17))]) hx hb dX4_bytesBetween_52 hl (k := 2) rfl (nI_1 _) (by decide) rfl (fun ls hl => ?_)
        refine lv_goto (tgt := 23) hx hb dX4_bytesBetween_55 (by decide) ?_
        exact ih23 (k + 1) (by omega) (by omega) ls (by exact lv_sub hl [2, 1, 0] rfl)
  exact loop23 (T 0 0 + 1) 0 (by omega) (by omega) ls (by exact lv_sub hl [2, 1, 0] rfl)
set_option maxHeartbeats 4000000 in
set_option maxRecDepth 100000 in
theorem c_X4_thunkCode (l : Launch) (D : va_G) (y : Nat → ClassId) (ad : Nat → Nat) (cap : Nat → Nat) (I : Nat → Nat → Int32) (J : Nat → Nat → Int64) {T : Nat → Nat → Nat} {M : List Th} (hT : RT18 I T) (hW : WF T) (hQ : LQ I J T (cap 0) M) (p0 : Int32) : Met l yX4_thunkCode [.code yX4_thunkCode cX4_thunkCode 2 (some .int)] ({ frames := 3, cells := 0, slots := 0, locals := 79 }) (va_Pc [.ref (ad 17), .int p0] (PR D y (Wd y ad cap I J))) (vp_Si (fun r => r = oI ((ix M.length p0).bind (cdT T M)))) 0 0 (fun _ => False) := by
  refine Met.ofW (cc := cX4_thunkCode) (maxL := 2) (ret := (some .int)) (by decide) rfl ?_
  intro p e s m args below meth c s₁ B hml hv
  obtain ⟨rfl, hP, hO⟩ := hv
  have hx := B.exec
  have hb := B.bytes
  have hr := B.returns
  have hown : s.vm.findClass RX4 = some m.cls := findClass_of_methodNamed B.named
  have hlocks := B.notSynchronized
  have hK := hO.1
  have hts : ∀ w ∈ lw_E, w.before ([.ref (ad 17), .int p0] : List Value).toArray s = true := fun w h => hO.2 w h _
  clear B
  have hl := lv_entry ([.ref (ad 17), .int p0]) (n := 2) (Nat.le_of_ble_eq_true rfl)
  rw [lg_entry_eq]
  generalize (lg_sl ([.ref (ad 17), .int p0]) ++ List.replicate (2 - (lg_sl ([.ref (ad 17), .int p0])).length) Slot.unset).toArray = ls at hl ⊢
  have hl : lv_has ls 2 [(0, .ref (ad 17)), (1, .int p0)] := hl
  have hW0 := hW
  obtain ⟨⟨w1, w2, w3, w4, w5, w6, w7⟩, wS, wL, wB, wK, wTk, wT0⟩ := hW
  obtain ⟨⟨q1, q2, q3, hTW, htz0⟩, qT, qP, qB, hJ, qE⟩ := hQ
  have hnM : ∀ s, cnt M s ≤ 2400 := fun s => by have := cnt_le M s; omega
  refine lv_aload_n hx hb dX4_thunkCode_0 rfl (lv_at hl 0 rfl) ?_
  refine va_get (D := D) (T := TX4) (N := 9) hx hb hts jnX4 hown hK hP 17 (wd_17 y ad cap I J) rfl 2 (by decide) (hts _ fl_X4_28) (fun _ h9 => h9) rfl dX4_thunkCode_1 ?_
  refine lv_iload_n hx hb dX4_thunkCode_4 rfl (lv_at hl 1 rfl) ?_
  refine rk_i (run_vn (As := [.int p0]) (rest := []) (b := (ad 38)) hx hb hml hown hO.2 (c_X6_has l D y (wd_38 y ad cap I J) p0) k_X6_has mn_X4_173 ⟨rfl, rfl⟩ ⟨Nat.le_of_ble_eq_true rfl, Nat.le_of_ble_eq_true rfl⟩ (pre_VR hO hP (wd_38 y ad cap I J) rfl) rfl hl.1 rfl (Nat.le_of_ble_eq_true rfl) dX4_thunkCode_5 ⟨(Nat.zero_le _), (Nat.zero_le _)⟩) (fun r5 er5 => ?_)
  try dsimp only at er5
  rw [q1] at er5
  refine lv_if_ne (tgt := 13) hx hb dX4_thunkCode_8 (by decide) (fun c8 => ?_) (fun c8 => ?_)
  · skip
    have c8 := if01_n er5 c8
    obtain ⟨t0, rfl, ht0⟩ := ix_ok (n := M.length) (by omega) c8
    obtain ⟨t1, t2, t3, t4⟩ := hTW.1 t0 ht0
    have htz := htz0 (by omega)
    have hpl := plc_le hW0 (by omega) hTW ht0
    refine lv_aload_n hx hb dX4_thunkCode_13 rfl (lv_at hl 0 rfl) ?_
    refine va_get (D := D) (T := TX4) (N := 9) hx hb hts jnX4 hown hK hP 17 (wd_17 y ad cap I J) rfl 0 (by decide) (hts _ fl_X4_12) (fun _ h9 => h9) rfl dX4_thunkCode_14 ?_
    refine va_getN (D := D) (T := TX7) (N := 8) hx hb hts jnX7 hown hK hP 18 (wd_18 y ad cap I J) rfl 2 (by decide) (hts _ fn_X4_150) (fun _ h9 => h9) rfl dX4_thunkCode_17 ?_
    refine lv_aload_n hx hb dX4_thunkCode_20 rfl (lv_at hl 0 rfl) ?_
    refine va_get (D := D) (T := TX4) (N := 9) hx hb hts jnX4 hown hK hP 17 (wd_17 y ad cap I J) rfl 0 (by decide) (hts _ fl_X4_12) (fun _ h9 => h9) rfl dX4_thunkCode_21 ?_
    refine va_getN (D := D) (T := TX7) (N := 8) hx hb hts jnX7 hown hK hP 18 (wd_18 y ad cap I J) rfl 7 (by decide) (hts _ fn_X4_163) (fun _ h9 => h9) rfl dX4_thunkCode_24 ?_
    refine lv_topi (fun v24 ev24 => ?_)
    obtain rfl : v24 = (nI (T 0 7)) := by
      rw [ev24]; exact hT.1.2.2.2.2.2.2.2 htz
    refine lv_aload_n hx hb dX4_thunkCode_27 rfl (lv_at hl 0 rfl) ?_
    refine va_get (D := D) (T := TX4) (N := 9) hx hb hts jnX4 hown hK hP 17 (wd_17 y ad cap I J) rfl 2 (by decide) (hts _ fl_X4_28) (fun _ h9 => h9) rfl dX4_thunkCode_28 ?_
    refine va_getN (D := D) (T := TX6) (N := 11) hx hb hts jnX6 hown hK hP 38 (wd_38 y ad cap I J) rfl 8 (by decide) (hts _ fn_X4_179) (fun _ h9 => h9) rfl dX4_thunkCode_31 ?_
    refine lv_iload_n hx hb dX4_thunkCode_34 rfl (lv_at hl 1 rfl) ?_
    refine va_lald (D := D) hx hb hK hP 45 1 (wd_45 y ad cap I J) rfl (vp_in_nI (by omega) (by omega)) dX4_thunkCode_35 ?_
    rw [nI_clamp (n := t0) (by omega)]
    refine lv_topl (fun v35 ev35 => ?_)
    obtain rfl : v35 = (lN (plc T M t0)) := by
      rw [ev35]; exact qP _ (by omega)
    refine lv_aload_n hx hb dX4_thunkCode_36 rfl (lv_at hl 0 rfl) ?_
    refine lv_aload_n hx hb dX4_thunkCode_37 rfl (lv_at hl 0 rfl) ?_
    refine va_get (D := D) (T := TX4) (N := 9) hx hb hts jnX4 hown hK hP 17 (wd_17 y ad cap I J) rfl 2 (by decide) (hts _ fl_X4_28) (fun _ h9 => h9) rfl dX4_thunkCode_38 ?_
    refine va_getN (D := D) (T := TX6) (N := 11) hx hb hts jnX6 hown hK hP 38 (wd_38 y ad cap I J) rfl 3 (by decide) (hts _ fn_X4_182) (fun _ h9 => h9) rfl dX4_thunkCode_41 ?_
    refine lv_iload_n hx hb dX4_thunkCode_44 rfl (lv_at hl 1 rfl) ?_
    refine va_iald (D := D) hx hb hK hP 40 0 (wd_40 y ad cap I J) rfl (vp_in_nI (by omega) (by omega)) dX4_thunkCode_45 ?_
    rw [nI_clamp (n := t0) (by omega)]
    refine lv_topi (fun v45 ev45 => ?_)
    obtain rfl : v45 = (nI ((thA M t0).2.1)) := by
      rw [ev45]; exact (qT _ (by omega)).2.1
    refine rk_l (run_v (As := [.int (nI ((thA M t0).2.1))]) (rest := [.long (lN (plc T M t0)), .int (nI (T 0 7)), .ref (ad 26)]) (b := (ad 17)) hx hb hml hown hO.2 (c_X4_labelAddress l D y ad cap I J hT hW0 hnM hJ (l0 := (thA M t0).2.1) t2) k_X4_labelAddress ml_X4_166 ⟨rfl, rfl⟩ ⟨Nat.le_of_ble_eq_true rfl, Nat.le_of_ble_eq_true rfl⟩ (pre_VR hO hP (wd_17 y ad cap I J) rfl) rfl hl.1 rfl (Nat.le_of_ble_eq_true rfl) dX4_thunkCode_46 ⟨(Nat.zero_le _), (Nat.zero_le _)⟩) (fun r46 er46 => ?_)
    try dsimp only at er46
    obtain rfl : r46 = (lN (labA T (cnt M) ((thA M t0).2.1))) := by
      exact er46
    refine rk_i (run_vn (As := [.int (nI (T 0 7)), .long (lN (plc T M t0)), .long (lN (labA T (cnt M) ((thA M t0).2.1)))]) (rest := []) (b := (ad 26)) hx hb hml hown hO.2 (c_X2_encode l D y (wd_26 y ad cap I J) (wd_27 y ad cap I J) (wd_28 y ad cap I J) (k0 := T 0 7) (wTk htz).1 (hT.2.2.2.2 _ (wTk htz).1).1 (hT.2.2.2.2 _ (wTk htz).1).2 (wK _ (wTk htz).1).1 (wTk htz).2 (wK _ (wTk htz).1).2 (by omega) (by have := labA_le hW0 hnM t2; omega)) k_X2_encode mn_X4_227 ⟨rfl, rfl⟩ ⟨Nat.le_of_ble_eq_true rfl, Nat.le_of_ble_eq_true rfl⟩ (pre_VR hO hP (wd_26 y ad cap I J) rfl) rfl hl.1 rfl (Nat.le_of_ble_eq_true rfl) dX4_thunkCode_49 ⟨(Nat.zero_le _), (Nat.zero_le _)⟩) (fun r49 er49 => ?_)
    try dsimp only at er49
    refine W.iret (v := r49) hx hb hr (fun t ht hW => ⟨_, rfl, ?_, ht⟩) (fun _ h => nomatch h) dX4_thunkCode_52
    rw [ix_in (by omega) ht0, er49]
    simp only [Option.bind_some, cdT]
    split <;> rfl
  · skip
    have c8 := if01_z er5 c8
    refine lv_iconst (v := (-1)) hx hb dX4_thunkCode_11 (by decide) ?_
    refine W.iret (v := (-1)) hx hb hr (fun t ht hW => ⟨_, rfl, ?_, ht⟩) (fun _ h => nomatch h) dX4_thunkCode_12
    rw [ix_no c8]
    rfl
set_option maxHeartbeats 4000000 in
set_option maxRecDepth 100000 in
theorem c_X4_branchCode (l : Launch) (D : va_G) (y : Nat → ClassId) (ad : Nat → Nat) (cap : Nat → Nat) (I : Nat → Nat → Int32) (J : Nat → Nat → Int64) {T : Nat → Nat → Nat} {M : List Th} (hT : RT18 I T) (hW : WF T) (hQ : LQ I J T (cap 0) M) (p0 : Int32) : Met l yX4_branchCode [.code yX4_branchCode cX4_branchCode 5 (some .int)] ({ frames := 3, cells := 0, slots := 0, locals := 79 }) (va_Pc [.ref (ad 17), .int p0] (PR D y (Wd y ad cap I J))) (vp_Si (fun r => r = oI ((ix (T 0 2) p0).bind (cdB T M)))) 0 0 (fun _ => False) := by
  refine Met.ofW (cc := cX4_branchCode) (maxL := 5) (ret := (some .int)) (by decide) rfl ?_
  intro p e s m args below meth c s₁ B hml hv
  obtain ⟨rfl, hP, hO⟩ := hv
  have hx := B.exec
  have hb := B.bytes
  have hr := B.returns
  have hown : s.vm.findClass RX4 = some m.cls := findClass_of_methodNamed B.named
  have hlocks := B.notSynchronized
  have hK := hO.1
  have hts : ∀ w ∈ lw_E, w.before ([.ref (ad 17), .int p0] : List Value).toArray s = true := fun w h => hO.2 w h _
  clear B
  have hl := lv_entry ([.ref (ad 17), .int p0]) (n := 5) (Nat.le_of_ble_eq_true rfl)
  rw [lg_entry_eq]
  generalize (lg_sl ([.ref (ad 17), .int p0]) ++ List.replicate (5 - (lg_sl ([.ref (ad 17), .int p0])).length) Slot.unset).toArray = ls at hl ⊢
  have hl : lv_has ls 5 [(0, .ref (ad 17)), (1, .int p0)] := hl
  have hW0 := hW
  obtain ⟨⟨w1, w2, w3, w4, w5, w6, w7⟩, wS, wL, wB, wK, wTk, wT0⟩ := hW
  obtain ⟨⟨q1, q2, q3, hTW, htz0⟩, qT, qP, qB, hJ, qE⟩ := hQ
  have hnM : ∀ s, cnt M s ≤ 2400 := fun s => by have := cnt_le M s; omega
  refine lv_aload_n hx hb dX4_branchCode_0 rfl (lv_at hl 0 rfl) ?_
  refine va_get (D := D) (T := TX4) (N := 9) hx hb hts jnX4 hown hK hP 17 (wd_17 y ad cap I J) rfl 0 (by decide) (hts _ fl_X4_12) (fun _ h9 => h9) rfl dX4_branchCode_1 ?_
  refine va_getN (D := D) (T := TX7) (N := 8) hx hb hts jnX7 hown hK hP 18 (wd_18 y ad cap I J) rfl 3 (by decide) (hts _ fn_X4_85) (fun _ h9 => h9) rfl dX4_branchCode_4 ?_
  refine lv_iload_n hx hb dX4_branchCode_7 rfl (lv_at hl 1 rfl) ?_
  refine rk_i (run_vn (As := [.int p0]) (rest := []) (b := (ad 29)) hx hb hml hown hO.2 (c_X1_has l D y (wd_29 y ad cap I J) p0) k_X1_has mn_X4_226 ⟨rfl, rfl⟩ ⟨Nat.le_of_ble_eq_true rfl, Nat.le_of_ble_eq_true rfl⟩ (pre_VR hO hP (wd_29 y ad cap I J) rfl) rfl hl.1 rfl (Nat.le_of_ble_eq_true rfl) dX4_branchCode_8 ⟨(Nat.zero_le _), (Nat.zero_le _)⟩) (fun r8 er8 => ?_)
  try dsimp only at er8
  rw [hT.1.2.2.1] at er8
  refine lv_if_eq (tgt := 24) hx hb dX4_branchCode_11 (by decide) (fun c11 => ?_) (fun c11 => ?_)
  · skip
    have c11 := if01_z er8 c11
    refine lv_iconst (v := (-1)) hx hb dX4_branchCode_24 (by decide) ?_
    refine W.iret (v := (-1)) hx hb hr (fun t ht hW => ⟨_, rfl, ?_, ht⟩) (fun _ h => nomatch h) dX4_branchCode_25
    first | (rw [ix_no c11]; rfl) | (rw [ix_in (by omega) hb0]; simp only [Option.bind_some]; unfold wyB at c21; by_cases h9 : dirB T (cnt M) b0 = true; (rw [if_pos h9] at c21; exact absurd c21 (by decide)); rw [if_neg h9] at c21; cases h8 : bst T M b0 (T 0 0) with | none => (simp [cdB, h9, h8, oI]) | some t => (rw [h8] at c21; exact absurd c21 (by simp)))
  · skip
    have c11 := if01_n er8 c11
    obtain ⟨b0, rfl, hb0⟩ := ix_ok (n := T 0 2) (by omega) c11
    obtain ⟨x1, x2, x6, x7, x8⟩ := wB b0 hb0
    obtain ⟨x3, x4, x5⟩ := wS _ x1
    have hwy : wyB T M b0 < 2 ^ 31 := by unfold wyB; split; omega; split <;> omega
    refine lv_aload_n hx hb dX4_branchCode_14 rfl (lv_at hl 0 rfl) ?_
    refine va_get (D := D) (T := TX4) (N := 9) hx hb hts jnX4 hown hK hP 17 (wd_17 y ad cap I J) rfl 3 (by decide) (hts _ fl_X4_32) (fun _ h9 => h9) rfl dX4_branchCode_15 ?_
    refine lv_iload_n hx hb dX4_branchCode_18 rfl (lv_at hl 1 rfl) ?_
    refine va_iald (D := D) hx hb hK hP 48 0 (wd_48 y ad cap I J) rfl (vp_in_nI (by omega) (by omega)) dX4_branchCode_19 ?_
    rw [nI_clamp (n := b0) (by omega)]
    refine lv_topi (fun v19 ev19 => ?_)
    obtain rfl : v19 = (nI (wyB T M b0)) := by
      rw [ev19]; exact (qB _ (by omega)).1
    refine lv_iconst (v := 2) hx hb dX4_branchCode_20 (by decide) ?_
    refine lv_icmp_ne (tgt := 26) hx hb dX4_branchCode_21 (by decide) (fun c21 => ?_) (fun c21 => ?_)
    · skip
      have c21 := mt (nI_eq (a := (wyB T M b0)) (b := 2) (by omega) (by omega)).mpr c21
      have hbst : dirB T (cnt M) b0 = true ∨ ∃ t, bst T M b0 (T 0 0) = some t := by
        unfold wyB at c21
        by_cases h9 : dirB T (cnt M) b0 = true
        · exact Or.inl h9
        · rw [if_neg h9] at c21
          cases h8 : bst T M b0 (T 0 0) with
          | none =>
            rw [h8] at c21
            exact absurd rfl c21
          | some t => exact Or.inr ⟨t, rfl⟩
      refine lv_aload_n hx hb dX4_branchCode_26 rfl (lv_at hl 0 rfl) ?_
      refine va_get (D := D) (T := TX4) (N := 9) hx hb hts jnX4 hown hK hP 17 (wd_17 y ad cap I J) rfl 4 (by decide) (hts _ fl_X4_36) (fun _ h9 => h9) rfl dX4_branchCode_27 ?_
      refine lv_iload_n hx hb dX4_branchCode_30 rfl (lv_at hl 1 rfl) ?_
      refine va_iald (D := D) hx hb hK hP 49 0 (wd_49 y ad cap I J) rfl (vp_in_nI (by omega) (by omega)) dX4_branchCode_31 ?_
      rw [nI_clamp (n := b0) (by omega)]
      refine lv_topi (fun v31 ev31 => ?_)
      obtain rfl : v31 = (oI (rtB T M b0)) := by
        rw [ev31]; exact (qB _ (by omega)).2
      refine lv_istore_n (lv' := [(2, .int (oI (rtB T M b0))), (0, .ref (ad 17)), (1, .int (nI b0))]) hx hb dX4_branchCode_32 rfl hl (by decide) rfl (fun ls hl => ?_)
      refine lv_aload_n hx hb dX4_branchCode_33 rfl (lv_at hl 1 rfl) ?_
      refine va_get (D := D) (T := TX4) (N := 9) hx hb hts jnX4 hown hK hP 17 (wd_17 y ad cap I J) rfl 2 (by decide) (hts _ fl_X4_28) (fun _ h9 => h9) rfl dX4_branchCode_34 ?_
      refine lv_iload_n hx hb dX4_branchCode_37 rfl (lv_at hl 0 rfl) ?_
      refine rk_i (run_vn (As := [.int (oI (rtB T M b0))]) (rest := []) (b := (ad 38)) hx hb hml hown hO.2 (c_X6_has l D y (wd_38 y ad cap I J) (oI (rtB T M b0))) k_X6_has mn_X4_173 ⟨rfl, rfl⟩ ⟨Nat.le_of_ble_eq_true rfl, Nat.le_of_ble_eq_true rfl⟩ (pre_VR hO hP (wd_38 y ad cap I J) rfl) rfl hl.1 rfl (Nat.le_of_ble_eq_true rfl) dX4_branchCode_38 ⟨(Nat.zero_le _), (Nat.zero_le _)⟩) (fun r38 er38 => ?_)
      try dsimp only at er38
      rw [q1] at er38
      refine lv_if_eq (tgt := 56) hx hb dX4_branchCode_41 (by decide) (fun c41 => ?_) (fun c41 => ?_)
      · skip
        have c41 := if01_z er38 c41
        have hdr : dirB T (cnt M) b0 = true := by
          rcases hbst with h9 | ⟨t, h9⟩
          · exact h9
          · by_cases h8 : dirB T (cnt M) b0 = true
            · exact h8
            · have h7 : rtB T M b0 = some t := by
                unfold rtB
                rw [if_neg h8]
                exact h9
              have h6 := bst_lt _ _ h9
              rw [h7] at c41
              simp only [oI] at c41
              exact absurd ⟨nI_pos (by omega), by rw [nI_leI (by omega) (by omega)]; omega⟩ c41
        refine lv_aload_n hx hb dX4_branchCode_56 rfl (lv_at hl 1 rfl) ?_
        refine lv_aload_n hx hb dX4_branchCode_57 rfl (lv_at hl 1 rfl) ?_
        refine va_get (D := D) (T := TX4) (N := 9) hx hb hts jnX4 hown hK hP 17 (wd_17 y ad cap I J) rfl 0 (by decide) (hts _ fl_X4_12) (fun _ h9 => h9) rfl dX4_branchCode_58 ?_
        refine va_getN (D := D) (T := TX7) (N := 8) hx hb hts jnX7 hown hK hP 18 (wd_18 y ad cap I J) rfl 3 (by decide) (hts _ fn_X4_85) (fun _ h9 => h9) rfl dX4_branchCode_61 ?_
        refine va_getN (D := D) (T := TX1) (N := 5) hx hb hts jnX1 hown hK hP 29 (wd_29 y ad cap I J) rfl 4 (by decide) (hts _ fn_X4_108) (fun _ h9 => h9) rfl dX4_branchCode_64 ?_
        refine lv_iload_n hx hb dX4_branchCode_67 rfl (lv_at hl 2 rfl) ?_
        refine va_iald (D := D) hx hb hK hP 33 0 (wd_33 y ad cap I J) rfl (vp_in_nI (by omega) (by omega)) dX4_branchCode_68 ?_
        rw [nI_clamp (n := b0) (by omega)]
        refine lv_topi (fun v68 ev68 => ?_)
        obtain rfl : v68 = (nI (T 9 b0)) := by
          rw [ev68]; exact (hT.2.2.2.1 _ (by omega)).2.2.2
        refine rk_l (run_v (As := [.int (nI (T 9 b0))]) (rest := []) (b := (ad 17)) hx hb hml hown hO.2 (c_X4_labelAddress l D y ad cap I J hT hW0 hnM hJ (l0 := T 9 b0) x8) k_X4_labelAddress ml_X4_166 ⟨rfl, rfl⟩ ⟨Nat.le_of_ble_eq_true rfl, Nat.le_of_ble_eq_true rfl⟩ (pre_VR hO hP (wd_17 y ad cap I J) rfl) rfl hl.1 rfl (Nat.le_of_ble_eq_true rfl) dX4_branchCode_69 ⟨(Nat.zero_le _), (Nat.zero_le _)⟩) (fun r69 er69 => ?_)
        try dsimp only at er69
        obtain rfl : r69 = (lN (labA T (cnt M) (T 9 b0))) := by
          exact er69
        refine lv_lstore_n (lv' := [(3, .long (lN (labA T (cnt M) (T 9 b0)))), (2, .int (oI (rtB T M b0))), (0, .ref (ad 17)), (1, .int (nI b0))]) hx hb dX4_branchCode_72 rfl hl (by decide) rfl (fun ls hl => ?_)
        refine lv_aload_n hx hb dX4_branchCode_73 rfl (lv_at hl 2 rfl) ?_
        refine va_get (D := D) (T := TX4) (N := 9) hx hb hts jnX4 hown hK hP 17 (wd_17 y ad cap I J) rfl 0 (by decide) (hts _ fl_X4_12) (fun _ h9 => h9) rfl dX4_branchCode_74 ?_
        refine va_getN (D := D) (T := TX7) (N := 8) hx hb hts jnX7 hown hK hP 18 (wd_18 y ad cap I J) rfl 2 (by decide) (hts _ fn_X4_150) (fun _ h9 => h9) rfl dX4_branchCode_77 ?_
        refine lv_aload_n hx hb dX4_branchCode_80 rfl (lv_at hl 2 rfl) ?_
        refine va_get (D := D) (T := TX4) (N := 9) hx hb hts jnX4 hown hK hP 17 (wd_17 y ad cap I J) rfl 0 (by decide) (hts _ fl_X4_12) (fun _ h9 => h9) rfl dX4_branchCode_81 ?_
        refine va_getN (D := D) (T := TX7) (N := 8) hx hb hts jnX7 hown hK hP 18 (wd_18 y ad cap I J) rfl 3 (by decide) (hts _ fn_X4_85) (fun _ h9 => h9) rfl dX4_branchCode_84 ?_
        refine va_getN (D := D) (T := TX1) (N := 5) hx hb hts jnX1 hown hK hP 29 (wd_29 y ad cap I J) rfl 3 (by decide) (hts _ fn_X4_154) (fun _ h9 => h9) rfl dX4_branchCode_87 ?_
        refine lv_iload_n hx hb dX4_branchCode_90 rfl (lv_at hl 3 rfl) ?_
        refine va_iald (D := D) hx hb hK hP 32 0 (wd_32 y ad cap I J) rfl (vp_in_nI (by omega) (by omega)) dX4_branchCode_91 ?_
        rw [nI_clamp (n := b0) (by omega)]
        refine lv_topi (fun v91 ev91 => ?_)
        obtain rfl : v91 = (nI (T 8 b0)) := by
          rw [ev91]; exact (hT.2.2.2.1 _ (by omega)).2.2.1
        refine lv_aload_n hx hb dX4_branchCode_92 rfl (lv_at hl 2 rfl) ?_
        refine lv_iload_n hx hb dX4_branchCode_93 rfl (lv_at hl 3 rfl) ?_
        refine rk_l (run_v (As := [.int (nI b0)]) (rest := [.int (nI (T 8 b0)), .ref (ad 26)]) (b := (ad 17)) hx hb hml hown hO.2 (c_X4_branchAddress l D y ad cap I J hT hW0 hnM hJ (b0 := b0) hb0) k_X4_branchAddress ml_X4_111 ⟨rfl, rfl⟩ ⟨Nat.le_of_ble_eq_true rfl, Nat.le_of_ble_eq_true rfl⟩ (pre_VR hO hP (wd_17 y ad cap I J) rfl) rfl hl.1 rfl (Nat.le_of_ble_eq_true rfl) dX4_branchCode_94 ⟨(Nat.zero_le _), (Nat.zero_le _)⟩) (fun r94 er94 => ?_)
        try dsimp only at er94
        obtain rfl : r94 = (lN (braA T (cnt M) b0)) := by
          exact er94
        refine lv_lload_n hx hb dX4_branchCode_97 rfl (lv_at hl 0 rfl) ?_
        refine rk_i (run_vn (As := [.int (nI (T 8 b0)), .long (lN (braA T (cnt M) b0)), .long (lN (labA T (cnt M) (T 9 b0)))]) (rest := []) (b := (ad 26)) hx hb hml hown hO.2 (c_X2_encode l D y (wd_26 y ad cap I J) (wd_27 y ad cap I J) (wd_28 y ad cap I J) (k0 := T 8 b0) x6 (hT.2.2.2.2 _ x6).1 (hT.2.2.2.2 _ x6).2 (wK _ x6).1 x7 (wK _ x6).2 (by have := braA_le hW0 hnM hb0; omega) (by have := labA_le hW0 hnM x8; omega)) k_X2_encode mn_X4_227 ⟨rfl, rfl⟩ ⟨Nat.le_of_ble_eq_true rfl, Nat.le_of_ble_eq_true rfl⟩ (pre_VR hO hP (wd_26 y ad cap I J) rfl) rfl hl.1 rfl (Nat.le_of_ble_eq_true rfl) dX4_branchCode_98 ⟨(Nat.zero_le _), (Nat.zero_le _)⟩) (fun r98 er98 => ?_)
        try dsimp only at er98
        refine W.iret (v := r98) hx hb hr (fun t ht hW => ⟨_, rfl, ?_, ht⟩) (fun _ h => nomatch h) dX4_branchCode_101
        rw [ix_in (by omega) hb0, er98]
        simp only [Option.bind_some, cdB]
        have hdr2 := hdr
        unfold dirB at hdr2
        rw [if_pos hdr, if_pos hdr2]
        rfl
      · skip
        have c41 := if01_n er38 c41
        have hrt : ∃ t0, rtB T M b0 = some t0 ∧ bst T M b0 (T 0 0) = some t0 ∧ ¬ dirB T (cnt M) b0 = true := by
          cases h8 : rtB T M b0 with
          | none =>
            rw [h8] at c41
            exact absurd (show (-1 : Int32) < 0 by decide) c41.1
          | some t =>
            unfold rtB at h8
            by_cases h9 : dirB T (cnt M) b0 = true
            · rw [if_pos h9] at h8
              cases h8
            · rw [if_neg h9] at h8
              exact ⟨t, rfl, h8, h9⟩
        obtain ⟨t0, hrt, hbt, hnd⟩ := hrt
        rw [hrt] at hl
        simp only [oI] at hl
        have ht0 := bst_lt _ _ hbt
        have hpl := plc_le hW0 (by omega) hTW ht0
        obtain ⟨hh1, hh2⟩ := help_split (bst_help _ _ hbt).1
        refine lv_aload_n hx hb dX4_branchCode_44 rfl (lv_at hl 1 rfl) ?_
        refine va_get (D := D) (T := TX4) (N := 9) hx hb hts jnX4 hown hK hP 17 (wd_17 y ad cap I J) rfl 2 (by decide) (hts _ fl_X4_28) (fun _ h9 => h9) rfl dX4_branchCode_45 ?_
        refine va_getN (D := D) (T := TX6) (N := 11) hx hb hts jnX6 hown hK hP 38 (wd_38 y ad cap I J) rfl 8 (by decide) (hts _ fn_X4_179) (fun _ h9 => h9) rfl dX4_branchCode_48 ?_
        refine lv_iload_n hx hb dX4_branchCode_51 rfl (lv_at hl 0 rfl) ?_
        refine va_lald (D := D) hx hb hK hP 45 1 (wd_45 y ad cap I J) rfl (vp_in_nI (by omega) (by omega)) dX4_branchCode_52 ?_
        rw [nI_clamp (n := t0) (by omega)]
        refine lv_topl (fun v52 ev52 => ?_)
        obtain rfl : v52 = (lN (plc T M t0)) := by
          rw [ev52]; exact qP _ (by omega)
        refine lv_goto (tgt := 72) hx hb dX4_branchCode_53 (by decide) ?_
        refine lv_lstore_n (lv' := [(3, .long (lN (plc T M t0))), (2, .int (nI t0)), (0, .ref (ad 17)), (1, .int (nI b0))]) hx hb dX4_branchCode_72 rfl hl (by decide) rfl (fun ls hl => ?_)
        refine lv_aload_n hx hb dX4_branchCode_73 rfl (lv_at hl 2 rfl) ?_
        refine va_get (D := D) (T := TX4) (N := 9) hx hb hts jnX4 hown hK hP 17 (wd_17 y ad cap I J) rfl 0 (by decide) (hts _ fl_X4_12) (fun _ h9 => h9) rfl dX4_branchCode_74 ?_
        refine va_getN (D := D) (T := TX7) (N := 8) hx hb hts jnX7 hown hK hP 18 (wd_18 y ad cap I J) rfl 2 (by decide) (hts _ fn_X4_150) (fun _ h9 => h9) rfl dX4_branchCode_77 ?_
        refine lv_aload_n hx hb dX4_branchCode_80 rfl (lv_at hl 2 rfl) ?_
        refine va_get (D := D) (T := TX4) (N := 9) hx hb hts jnX4 hown hK hP 17 (wd_17 y ad cap I J) rfl 0 (by decide) (hts _ fl_X4_12) (fun _ h9 => h9) rfl dX4_branchCode_81 ?_
        refine va_getN (D := D) (T := TX7) (N := 8) hx hb hts jnX7 hown hK hP 18 (wd_18 y ad cap I J) rfl 3 (by decide) (hts _ fn_X4_85) (fun _ h9 => h9) rfl dX4_branchCode_84 ?_
        refine va_getN (D := D) (T := TX1) (N := 5) hx hb hts jnX1 hown hK hP 29 (wd_29 y ad cap I J) rfl 3 (by decide) (hts _ fn_X4_154) (fun _ h9 => h9) rfl dX4_branchCode_87 ?_
        refine lv_iload_n hx hb dX4_branchCode_90 rfl (lv_at hl 3 rfl) ?_
        refine va_iald (D := D) hx hb hK hP 32 0 (wd_32 y ad cap I J) rfl (vp_in_nI (by omega) (by omega)) dX4_branchCode_91 ?_
        rw [nI_clamp (n := b0) (by omega)]
        refine lv_topi (fun v91 ev91 => ?_)
        obtain rfl : v91 = (nI (T 8 b0)) := by
          rw [ev91]; exact (hT.2.2.2.1 _ (by omega)).2.2.1
        refine lv_aload_n hx hb dX4_branchCode_92 rfl (lv_at hl 2 rfl) ?_
        refine lv_iload_n hx hb dX4_branchCode_93 rfl (lv_at hl 3 rfl) ?_
        refine rk_l (run_v (As := [.int (nI b0)]) (rest := [.int (nI (T 8 b0)), .ref (ad 26)]) (b := (ad 17)) hx hb hml hown hO.2 (c_X4_branchAddress l D y ad cap I J hT hW0 hnM hJ (b0 := b0) hb0) k_X4_branchAddress ml_X4_111 ⟨rfl, rfl⟩ ⟨Nat.le_of_ble_eq_true rfl, Nat.le_of_ble_eq_true rfl⟩ (pre_VR hO hP (wd_17 y ad cap I J) rfl) rfl hl.1 rfl (Nat.le_of_ble_eq_true rfl) dX4_branchCode_94 ⟨(Nat.zero_le _), (Nat.zero_le _)⟩) (fun r94 er94 => ?_)
        try dsimp only at er94
        obtain rfl : r94 = (lN (braA T (cnt M) b0)) := by
          exact er94
        refine lv_lload_n hx hb dX4_branchCode_97 rfl (lv_at hl 0 rfl) ?_
        refine rk_i (run_vn (As := [.int (nI (T 8 b0)), .long (lN (braA T (cnt M) b0)), .long (lN (plc T M t0))]) (rest := []) (b := (ad 26)) hx hb hml hown hO.2 (c_X2_encode l D y (wd_26 y ad cap I J) (wd_27 y ad cap I J) (wd_28 y ad cap I J) (k0 := T 8 b0) x6 (hT.2.2.2.2 _ x6).1 (hT.2.2.2.2 _ x6).2 (wK _ x6).1 x7 (wK _ x6).2 (by have := braA_le hW0 hnM hb0; omega) (by omega)) k_X2_encode mn_X4_227 ⟨rfl, rfl⟩ ⟨Nat.le_of_ble_eq_true rfl, Nat.le_of_ble_eq_true rfl⟩ (pre_VR hO hP (wd_26 y ad cap I J) rfl) rfl hl.1 rfl (Nat.le_of_ble_eq_true rfl) dX4_branchCode_98 ⟨(Nat.zero_le _), (Nat.zero_le _)⟩) (fun r98 er98 => ?_)
        try dsimp only at er98
        refine W.iret (v := r98) hx hb hr (fun t ht hW => ⟨_, rfl, ?_, ht⟩) (fun _ h => nomatch h) dX4_branchCode_101
        rw [ix_in (by omega) hb0, er98]
        simp only [Option.bind_some, cdB]
        rw [if_neg hnd, if_pos hh1, hbt]
        rfl
    · skip
      have c21 := (nI_eq (a := (wyB T M b0)) (b := 2) (by omega) (by omega)).mp c21
      refine lv_iconst (v := (-1)) hx hb dX4_branchCode_24 (by decide) ?_
      refine W.iret (v := (-1)) hx hb hr (fun t ht hW => ⟨_, rfl, ?_, ht⟩) (fun _ h => nomatch h) dX4_branchCode_25
      first | (rw [ix_no c11]; rfl) | (rw [ix_in (by omega) hb0]; simp only [Option.bind_some]; unfold wyB at c21; by_cases h9 : dirB T (cnt M) b0 = true; (rw [if_pos h9] at c21; exact absurd c21 (by decide)); rw [if_neg h9] at c21; cases h8 : bst T M b0 (T 0 0) with | none => (simp [cdB, h9, h8, oI]) | some t => (rw [h8] at c21; exact absurd c21 (by simp)))
