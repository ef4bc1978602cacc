/-- what the reference's cells hold of addresses: M made thunks -/
def MA (J : Nat → Nat → Int64) (T : Nat → Nat → Nat) (M : List Th) : Prop :=
  (∀ s, s < T 0 0 → J 67 s = lN (sA T (cnt M) s) ∧ J 68 s = lN (sA T (cnt M) s + T 1 s) ∧ J 70 s = lN (pE T (cnt M) s)) ∧
  (∀ l, l < T 0 1 → J 71 l = lN (labA T (cnt M) l)) ∧ (∀ b, b < T 0 2 → J 72 b = lN (braA T (cnt M) b)) ∧
  (∀ t, t < M.length → J 79 t = lN (plc T M t)) ∧ J 55 27 = lN (sAt T (cnt M) (T 0 0))
/-- and of the thunks -/
def MT (I : Nat → Nat → Int32) (L : List Th) : Prop := ∀ t, t < L.length → I 80 t = nI (thA L t).1 ∧ I 81 t = nI (thA L t).2.1 ∧ I 82 t = nI (thA L t).2.2.1 ∧ I 83 t = nI (thA L t).2.2.2 ∧ I 85 t = nI (rk L t)
theorem stp_told {T : Nat → Nat → Nat} {k : Nat} (h : 1 ≤ T 11 k) : stpN T k = 2 ^ T 10 k := by
  unfold stpN
  rw [if_neg (by omega)]
theorem lN_pow_ne {k : Nat} (h : k ≤ 3) : ¬ lN (2 ^ k) = 0 := by
  rw [show (0 : Int64) = lN 0 from rfl, pk_lEQ (by have := Nat.pow_le_pow_right (show 0 < 2 by omega) h; omega) (by omega)]
  have := Nat.two_pow_pos k
  omega
theorem lt_near {x a b : Nat} (h : b ≤ a) : nearB x a b = true ↔ dst x a < dst x b := by
  unfold nearB
  rw [decide_eq_true_iff]
  omega
set_option maxHeartbeats 4000000 in
set_option maxRecDepth 100000 in
theorem c_X9_upTo (l : Launch) (D : va_G) (y : Nat → ClassId) {ws : va_W} {a0 k0 : Nat} (ha : a0 < 2 ^ 40) (hk : k0 ≤ 12) : Met l yX9_upTo [.code yX9_upTo cX9_upTo 5 (some .long)] ({ frames := 0, cells := 0, slots := 0, locals := 0 }) (va_Pc [.long (lN a0), .int (nI k0)] (PR D y ws)) (vp_Sl (fun r => r = lN (up a0 k0))) 0 0 (fun _ => False) := by
  refine Met.ofW (cc := cX9_upTo) (maxL := 5) (ret := (some .long)) (by decide) rfl ?_
  intro p e s m args below meth c s₁ B hml hv
  obtain ⟨rfl, hP, hO⟩ := hv
  have hx := B.exec
  have hb := B.bytes
  have hr := B.returns
  have hown : s.vm.findClass RX9 = some m.cls := findClass_of_methodNamed B.named
  have hlocks := B.notSynchronized
  have hK := hO.1
  have hts : ∀ w ∈ lw_E, w.before ([.long (lN a0), .int (nI k0)] : List Value).toArray s = true := fun w h => hO.2 w h _
  clear B
  have hl := lv_entry ([.long (lN a0), .int (nI k0)]) (n := 5) (Nat.le_of_ble_eq_true rfl)
  rw [lg_entry_eq]
  generalize (lg_sl ([.long (lN a0), .int (nI k0)]) ++ List.replicate (5 - (lg_sl ([.long (lN a0), .int (nI k0)])).length) Slot.unset).toArray = ls at hl ⊢
  have hl : lv_has ls 5 [(0, .long (lN a0)), (2, .int (nI k0))] := hl
  refine lv_lconst (v := 1) hx hb dX9_upTo_0 (by decide) ?_
  refine lv_iload_n hx hb dX9_upTo_1 rfl (lv_at hl 1 rfl) ?_
  refine lv_lshl hx hb dX9_upTo_2 rfl ?_
  refine lv_topl (fun v2 ev2 => ?_)
  refine lv_lstore_n (lv' := [(3, .long v2), (0, .long (lN a0)), (2, .int (nI k0))]) hx hb dX9_upTo_3 rfl hl (by decide) rfl (fun ls hl => ?_)
  refine lv_lload_n hx hb dX9_upTo_4 rfl (lv_at hl 1 rfl) ?_
  refine lv_lload_n hx hb dX9_upTo_5 rfl (lv_at hl 0 rfl) ?_
  refine lv_ladd hx hb dX9_upTo_6 ?_
  refine lv_topl (fun v6 ev6 => ?_)
  refine lv_lconst (v := 1) hx hb dX9_upTo_7 (by decide) ?_
  refine lv_lsub hx hb dX9_upTo_8 ?_
  refine lv_topl (fun v8 ev8 => ?_)
  refine lv_lload_n hx hb dX9_upTo_9 rfl (lv_at hl 0 rfl) ?_
  refine lv_ldiv hx hb dX9_upTo_10 (m_ne0 hk ev2) ?_
  refine lv_topl (fun v10 ev10 => ?_)
  refine lv_lload_n hx hb dX9_upTo_11 rfl (lv_at hl 0 rfl) ?_
  refine lv_lmul hx hb dX9_upTo_12 ?_
  refine lv_topl (fun v12 ev12 => ?_)
  refine W.lret (v := v12) hx hb hr (fun t ht hW => ⟨_, rfl, ?_, ht⟩) (fun _ h => nomatch h) dX9_upTo_13
  exact upTo_model ha hk ev2 ev6 ev8 ev10 ev12
set_option maxHeartbeats 4000000 in
set_option maxRecDepth 100000 in
theorem c_X9_isNearer (l : Launch) (D : va_G) (y : Nat → ClassId) {ws : va_W} {x0 a0 b0 : Nat} (hx0 : x0 < 2 ^ 40) (ha : a0 < 2 ^ 40) (hb0 : b0 < 2 ^ 40) : Met l yX9_isNearer [.code yX9_isNearer cX9_isNearer 10 (some .boolean)] ({ frames := 0, cells := 0, slots := 0, locals := 0 }) (va_Pc [.long (lN x0), .long (lN a0), .long (lN b0)] (PR D y ws)) (vp_Si (fun r => r = if nearB x0 a0 b0 = true then 1 else 0)) 0 0 (fun _ => False) := by
  refine Met.ofW (cc := cX9_isNearer) (maxL := 10) (ret := (some .boolean)) (by decide) rfl ?_
  intro p e s m args below meth c s₁ B hml hv
  obtain ⟨rfl, hP, hO⟩ := hv
  have hx := B.exec
  have hb := B.bytes
  have hr := B.returns
  have hown : s.vm.findClass RX9 = some m.cls := findClass_of_methodNamed B.named
  have hlocks := B.notSynchronized
  have hK := hO.1
  have hts : ∀ w ∈ lw_E, w.before ([.long (lN x0), .long (lN a0), .long (lN b0)] : List Value).toArray s = true := fun w h => hO.2 w h _
  clear B
  have hl := lv_entry ([.long (lN x0), .long (lN a0), .long (lN b0)]) (n := 10) (Nat.le_of_ble_eq_true rfl)
  rw [lg_entry_eq]
  generalize (lg_sl ([.long (lN x0), .long (lN a0), .long (lN b0)]) ++ List.replicate (10 - (lg_sl ([.long (lN x0), .long (lN a0), .long (lN b0)])).length) Slot.unset).toArray = ls at hl ⊢
  have hl : lv_has ls 10 [(0, .long (lN x0)), (2, .long (lN a0)), (4, .long (lN b0))] := hl
  refine lv_lload_n hx hb dX9_isNearer_0 rfl (lv_at hl 1 rfl) ?_
  refine lv_lload_n hx hb dX9_isNearer_1 rfl (lv_at hl 0 rfl) ?_
  refine W.lcmp hx hb dX9_isNearer_2 ?_
  refine lv_if_ge (tgt := 12) hx hb dX9_isNearer_3 (by decide) (fun c3 => ?_) (fun c3 => ?_)
  · skip
    have c3 := lc_ge.mp c3
    rw [pk_lLE (by omega) (by omega)] at c3
    refine lv_lload_n hx hb dX9_isNearer_12 rfl (lv_at hl 1 rfl) ?_
    refine lv_lload_n hx hb dX9_isNearer_13 rfl (lv_at hl 0 rfl) ?_
    refine lv_lsub hx hb dX9_isNearer_14 ?_
    refine lv_topl (fun v14 ev14 => ?_)
    obtain rfl : v14 = (lN (dst x0 a0)) := by
      rw [ev14, lN_sub (by omega)]; unfold dst; first | (rw [if_pos (by omega)]; done) | (rw [if_neg (by omega)]; done)
    refine lv_lstore (lv' := [(6, .long (lN (dst x0 a0))), (0, .long (lN x0)), (2, .long (lN a0)), (4, .long (lN b0))]) hx hb dX9_isNearer_15 hl (by decide) rfl (fun ls hl => ?_)
    refine lv_lload hx hb dX9_isNearer_17 (lv_at hl 3 rfl) ?_
    refine lv_lload_n hx hb dX9_isNearer_19 rfl (lv_at hl 1 rfl) ?_
    refine W.lcmp hx hb dX9_isNearer_20 ?_
    refine lv_if_ge (tgt := 31) hx hb dX9_isNearer_21 (by decide) (fun c21 => ?_) (fun c21 => ?_)
    · skip
      have c21 := lc_ge.mp c21
      rw [pk_lLE (by omega) (by omega)] at c21
      refine lv_lload hx hb dX9_isNearer_31 (lv_at hl 3 rfl) ?_
      refine lv_lload_n hx hb dX9_isNearer_33 rfl (lv_at hl 1 rfl) ?_
      refine lv_lsub hx hb dX9_isNearer_34 ?_
      refine lv_topl (fun v34 ev34 => ?_)
      obtain rfl : v34 = (lN (dst x0 b0)) := by
        rw [ev34, lN_sub (by omega)]; unfold dst; first | (rw [if_pos (by omega)]; done) | (rw [if_neg (by omega)]; done)
      refine lv_lstore (lv' := [(8, .long (lN (dst x0 b0))), (6, .long (lN (dst x0 a0))), (0, .long (lN x0)), (2, .long (lN a0)), (4, .long (lN b0))]) hx hb dX9_isNearer_35 hl (by decide) rfl (fun ls hl => ?_)
      have hd1 : dst x0 a0 < 2 ^ 40 := by unfold dst; split <;> omega
      have hd2 : dst x0 b0 < 2 ^ 40 := by unfold dst; split <;> omega
      refine lv_lload hx hb dX9_isNearer_37 (lv_at hl 1 rfl) ?_
      refine lv_lload hx hb dX9_isNearer_39 (lv_at hl 0 rfl) ?_
      refine W.lcmp hx hb dX9_isNearer_41 ?_
      refine lv_if_lt (tgt := 60) hx hb dX9_isNearer_42 (by decide) (fun c42 => ?_) (fun c42 => ?_)
      · skip
        have c42 := lc_lt.mp c42
        rw [pk_lLT (by omega) (by omega)] at c42
        refine lv_iconst (v := 1) hx hb dX9_isNearer_60 (by decide) ?_
        refine lv_goto (tgt := 65) hx hb dX9_isNearer_61 (by decide) ?_
        refine W.zret (v := 1) hx hb hr (by decide) (fun t ht hW => ⟨_, rfl, ?_, ht⟩) (fun _ h => nomatch h) dX9_isNearer_65
        first | (rw [if_pos (by unfold nearB; rw [decide_eq_true_iff]; omega)]; done) | (rw [if_neg (by unfold nearB; rw [decide_eq_true_iff]; omega)]; done)
      · skip
        have c42 := mt lc_lt.mpr c42
        rw [pk_lLT (by omega) (by omega)] at c42
        refine lv_lload hx hb dX9_isNearer_45 (lv_at hl 1 rfl) ?_
        refine lv_lload hx hb dX9_isNearer_47 (lv_at hl 0 rfl) ?_
        refine W.lcmp hx hb dX9_isNearer_49 ?_
        refine lv_if_ne (tgt := 64) hx hb dX9_isNearer_50 (by decide) (fun c50 => ?_) (fun c50 => ?_)
        · skip
          have c50 := mt lc_eq.mpr c50
          rw [pk_lEQ (by omega) (by omega)] at c50
          refine lv_iconst (v := 0) hx hb dX9_isNearer_64 (by decide) ?_
          refine W.zret (v := 0) hx hb hr (by decide) (fun t ht hW => ⟨_, rfl, ?_, ht⟩) (fun _ h => nomatch h) dX9_isNearer_65
          first | (rw [if_pos (by unfold nearB; rw [decide_eq_true_iff]; omega)]; done) | (rw [if_neg (by unfold nearB; rw [decide_eq_true_iff]; omega)]; done)
        · skip
          have c50 := lc_eq.mp c50
          rw [pk_lEQ (by omega) (by omega)] at c50
          refine lv_lload_n hx hb dX9_isNearer_53 rfl (lv_at hl 3 rfl) ?_
          refine lv_lload hx hb dX9_isNearer_54 (lv_at hl 4 rfl) ?_
          refine W.lcmp hx hb dX9_isNearer_56 ?_
          refine lv_if_ge (tgt := 64) hx hb dX9_isNearer_57 (by decide) (fun c57 => ?_) (fun c57 => ?_)
          · skip
            have c57 := lc_ge.mp c57
            rw [pk_lLE (by omega) (by omega)] at c57
            refine lv_iconst (v := 0) hx hb dX9_isNearer_64 (by decide) ?_
            refine W.zret (v := 0) hx hb hr (by decide) (fun t ht hW => ⟨_, rfl, ?_, ht⟩) (fun _ h => nomatch h) dX9_isNearer_65
            first | (rw [if_pos (by unfold nearB; rw [decide_eq_true_iff]; omega)]; done) | (rw [if_neg (by unfold nearB; rw [decide_eq_true_iff]; omega)]; done)
          · skip
            have c57 := mt lc_ge.mpr c57
            rw [pk_lLE (by omega) (by omega)] at c57
            refine lv_iconst (v := 1) hx hb dX9_isNearer_60 (by decide) ?_
            refine lv_goto (tgt := 65) hx hb dX9_isNearer_61 (by decide) ?_
            refine W.zret (v := 1) hx hb hr (by decide) (fun t ht hW => ⟨_, rfl, ?_, ht⟩) (fun _ h => nomatch h) dX9_isNearer_65
            first | (rw [if_pos (by unfold nearB; rw [decide_eq_true_iff]; omega)]; done) | (rw [if_neg (by unfold nearB; rw [decide_eq_true_iff]; omega)]; done)
    · skip
      have c21 := mt lc_ge.mpr c21
      rw [pk_lLE (by omega) (by omega)] at c21
      refine lv_lload_n hx hb dX9_isNearer_24 rfl (lv_at hl 1 rfl) ?_
      refine lv_lload hx hb dX9_isNearer_25 (lv_at hl 3 rfl) ?_
      refine lv_lsub hx hb dX9_isNearer_27 ?_
      refine lv_topl (fun v27 ev27 => ?_)
      obtain rfl : v27 = (lN (dst x0 b0)) := by
        rw [ev27, lN_sub (by omega)]; unfold dst; first | (rw [if_pos (by omega)]; done) | (rw [if_neg (by omega)]; done)
      refine lv_goto (tgt := 35) hx hb dX9_isNearer_28 (by decide) ?_
      refine lv_lstore (lv' := [(8, .long (lN (dst x0 b0))), (6, .long (lN (dst x0 a0))), (0, .long (lN x0)), (2, .long (lN a0)), (4, .long (lN b0))]) hx hb dX9_isNearer_35 hl (by decide) rfl (fun ls hl => ?_)
      have hd1 : dst x0 a0 < 2 ^ 40 := by unfold dst; split <;> omega
      have hd2 : dst x0 b0 < 2 ^ 40 := by unfold dst; split <;> omega
      refine lv_lload hx hb dX9_isNearer_37 (lv_at hl 1 rfl) ?_
      refine lv_lload hx hb dX9_isNearer_39 (lv_at hl 0 rfl) ?_
      refine W.lcmp hx hb dX9_isNearer_41 ?_
      refine lv_if_lt (tgt := 60) hx hb dX9_isNearer_42 (by decide) (fun c42 => ?_) (fun c42 => ?_)
      · skip
        have c42 := lc_lt.mp c42
        rw [pk_lLT (by omega) (by omega)] at c42
        refine lv_iconst (v := 1) hx hb dX9_isNearer_60 (by decide) ?_
        refine lv_goto (tgt := 65) hx hb dX9_isNearer_61 (by decide) ?_
        refine W.zret (v := 1) hx hb hr (by decide) (fun t ht hW => ⟨_, rfl, ?_, ht⟩) (fun _ h => nomatch h) dX9_isNearer_65
        first | (rw [if_pos (by unfold nearB; rw [decide_eq_true_iff]; omega)]; done) | (rw [if_neg (by unfold nearB; rw [decide_eq_true_iff]; omega)]; done)
      · skip
        have c42 := mt lc_lt.mpr c42
        rw [pk_lLT (by omega) (by omega)] at c42
        refine lv_lload hx hb dX9_isNearer_45 (lv_at hl 1 rfl) ?_
        refine lv_lload hx hb dX9_isNearer_47 (lv_at hl 0 rfl) ?_
        refine W.lcmp hx hb dX9_isNearer_49 ?_
        refine lv_if_ne (tgt := 64) hx hb dX9_isNearer_50 (by decide) (fun c50 => ?_) (fun c50 => ?_)
        · skip
          have c50 := mt lc_eq.mpr c50
          rw [pk_lEQ (by omega) (by omega)] at c50
          refine lv_iconst (v := 0) hx hb dX9_isNearer_64 (by decide) ?_
          refine W.zret (v := 0) hx hb hr (by decide) (fun t ht hW => ⟨_, rfl, ?_, ht⟩) (fun _ h => nomatch h) dX9_isNearer_65
          first | (rw [if_pos (by unfold nearB; rw [decide_eq_true_iff]; omega)]; done) | (rw [if_neg (by unfold nearB; rw [decide_eq_true_iff]; omega)]; done)
        · skip
          have c50 := lc_eq.mp c50
          rw [pk_lEQ (by omega) (by omega)] at c50
          refine lv_lload_n hx hb dX9_isNearer_53 rfl (lv_at hl 3 rfl) ?_
          refine lv_lload hx hb dX9_isNearer_54 (lv_at hl 4 rfl) ?_
          refine W.lcmp hx hb dX9_isNearer_56 ?_
          refine lv_if_ge (tgt := 64) hx hb dX9_isNearer_57 (by decide) (fun c57 => ?_) (fun c57 => ?_)
          · skip
            have c57 := lc_ge.mp c57
            rw [pk_lLE (by omega) (by omega)] at c57
            refine lv_iconst (v := 0) hx hb dX9_isNearer_64 (by decide) ?_
            refine W.zret (v := 0) hx hb hr (by decide) (fun t ht hW => ⟨_, rfl, ?_, ht⟩) (fun _ h => nomatch h) dX9_isNearer_65
            first | (rw [if_pos (by unfold nearB; rw [decide_eq_true_iff]; omega)]; done) | (rw [if_neg (by unfold nearB; rw [decide_eq_true_iff]; omega)]; done)
          · skip
            have c57 := mt lc_ge.mpr c57
            rw [pk_lLE (by omega) (by omega)] at c57
            refine lv_iconst (v := 1) hx hb dX9_isNearer_60 (by decide) ?_
            refine lv_goto (tgt := 65) hx hb dX9_isNearer_61 (by decide) ?_
            refine W.zret (v := 1) hx hb hr (by decide) (fun t ht hW => ⟨_, rfl, ?_, ht⟩) (fun _ h => nomatch h) dX9_isNearer_65
            first | (rw [if_pos (by unfold nearB; rw [decide_eq_true_iff]; omega)]; done) | (rw [if_neg (by unfold nearB; rw [decide_eq_true_iff]; omega)]; done)
  · skip
    have c3 := mt lc_ge.mpr c3
    rw [pk_lLE (by omega) (by omega)] at c3
    refine lv_lload_n hx hb dX9_isNearer_6 rfl (lv_at hl 0 rfl) ?_
    refine lv_lload_n hx hb dX9_isNearer_7 rfl (lv_at hl 1 rfl) ?_
    refine lv_lsub hx hb dX9_isNearer_8 ?_
    refine lv_topl (fun v8 ev8 => ?_)
    obtain rfl : v8 = (lN (dst x0 a0)) := by
      rw [ev8, lN_sub (by omega)]; unfold dst; first | (rw [if_pos (by omega)]; done) | (rw [if_neg (by omega)]; done)
    refine lv_goto (tgt := 15) hx hb dX9_isNearer_9 (by decide) ?_
    refine lv_lstore (lv' := [(6, .long (lN (dst x0 a0))), (0, .long (lN x0)), (2, .long (lN a0)), (4, .long (lN b0))]) hx hb dX9_isNearer_15 hl (by decide) rfl (fun ls hl => ?_)
    refine lv_lload hx hb dX9_isNearer_17 (lv_at hl 3 rfl) ?_
    refine lv_lload_n hx hb dX9_isNearer_19 rfl (lv_at hl 1 rfl) ?_
    refine W.lcmp hx hb dX9_isNearer_20 ?_
    refine lv_if_ge (tgt := 31) hx hb dX9_isNearer_21 (by decide) (fun c21 => ?_) (fun c21 => ?_)
    · skip
      have c21 := lc_ge.mp c21
      rw [pk_lLE (by omega) (by omega)] at c21
      refine lv_lload hx hb dX9_isNearer_31 (lv_at hl 3 rfl) ?_
      refine lv_lload_n hx hb dX9_isNearer_33 rfl (lv_at hl 1 rfl) ?_
      refine lv_lsub hx hb dX9_isNearer_34 ?_
      refine lv_topl (fun v34 ev34 => ?_)
      obtain rfl : v34 = (lN (dst x0 b0)) := by
        rw [ev34, lN_sub (by omega)]; unfold dst; first | (rw [if_pos (by omega)]; done) | (rw [if_neg (by omega)]; done)
      refine lv_lstore (lv' := [(8, .long (lN (dst x0 b0))), (6, .long (lN (dst x0 a0))), (0, .long (lN x0)), (2, .long (lN a0)), (4, .long (lN b0))]) hx hb dX9_isNearer_35 hl (by decide) rfl (fun ls hl => ?_)
      have hd1 : dst x0 a0 < 2 ^ 40 := by unfold dst; split <;> omega
      have hd2 : dst x0 b0 < 2 ^ 40 := by unfold dst; split <;> omega
      refine lv_lload hx hb dX9_isNearer_37 (lv_at hl 1 rfl) ?_
      refine lv_lload hx hb dX9_isNearer_39 (lv_at hl 0 rfl) ?_
      refine W.lcmp hx hb dX9_isNearer_41 ?_
      refine lv_if_lt (tgt := 60) hx hb dX9_isNearer_42 (by decide) (fun c42 => ?_) (fun c42 => ?_)
      · skip
        have c42 := lc_lt.mp c42
        rw [pk_lLT (by omega) (by omega)] at c42
        refine lv_iconst (v := 1) hx hb dX9_isNearer_60 (by decide) ?_
        refine lv_goto (tgt := 65) hx hb dX9_isNearer_61 (by decide) ?_
        refine W.zret (v := 1) hx hb hr (by decide) (fun t ht hW => ⟨_, rfl, ?_, ht⟩) (fun _ h => nomatch h) dX9_isNearer_65
        first | (rw [if_pos (by unfold nearB; rw [decide_eq_true_iff]; omega)]; done) | (rw [if_neg (by unfold nearB; rw [decide_eq_true_iff]; omega)]; done)
      · skip
        have c42 := mt lc_lt.mpr c42
        rw [pk_lLT (by omega) (by omega)] at c42
        refine lv_lload hx hb dX9_isNearer_45 (lv_at hl 1 rfl) ?_
        refine lv_lload hx hb dX9_isNearer_47 (lv_at hl 0 rfl) ?_
        refine W.lcmp hx hb dX9_isNearer_49 ?_
        refine lv_if_ne (tgt := 64) hx hb dX9_isNearer_50 (by decide) (fun c50 => ?_) (fun c50 => ?_)
        · skip
          have c50 := mt lc_eq.mpr c50
          rw [pk_lEQ (by omega) (by omega)] at c50
          refine lv_iconst (v := 0) hx hb dX9_isNearer_64 (by decide) ?_
          refine W.zret (v := 0) hx hb hr (by decide) (fun t ht hW => ⟨_, rfl, ?_, ht⟩) (fun _ h => nomatch h) dX9_isNearer_65
          first | (rw [if_pos (by unfold nearB; rw [decide_eq_true_iff]; omega)]; done) | (rw [if_neg (by unfold nearB; rw [decide_eq_true_iff]; omega)]; done)
        · skip
          have c50 := lc_eq.mp c50
          rw [pk_lEQ (by omega) (by omega)] at c50
          refine lv_lload_n hx hb dX9_isNearer_53 rfl (lv_at hl 3 rfl) ?_
          refine lv_lload hx hb dX9_isNearer_54 (lv_at hl 4 rfl) ?_
          refine W.lcmp hx hb dX9_isNearer_56 ?_
          refine lv_if_ge (tgt := 64) hx hb dX9_isNearer_57 (by decide) (fun c57 => ?_) (fun c57 => ?_)
          · skip
            have c57 := lc_ge.mp c57
            rw [pk_lLE (by omega) (by omega)] at c57
            refine lv_iconst (v := 0) hx hb dX9_isNearer_64 (by decide) ?_
            refine W.zret (v := 0) hx hb hr (by decide) (fun t ht hW => ⟨_, rfl, ?_, ht⟩) (fun _ h => nomatch h) dX9_isNearer_65
            first | (rw [if_pos (by unfold nearB; rw [decide_eq_true_iff]; omega)]; done) | (rw [if_neg (by unfold nearB; rw [decide_eq_true_iff]; omega)]; done)
          · skip
            have c57 := mt lc_ge.mpr c57
            rw [pk_lLE (by omega) (by omega)] at c57
            refine lv_iconst (v := 1) hx hb dX9_isNearer_60 (by decide) ?_
            refine lv_goto (tgt := 65) hx hb dX9_isNearer_61 (by decide) ?_
            refine W.zret (v := 1) hx hb hr (by decide) (fun t ht hW => ⟨_, rfl, ?_, ht⟩) (fun _ h => nomatch h) dX9_isNearer_65
            first | (rw [if_pos (by unfold nearB; rw [decide_eq_true_iff]; omega)]; done) | (rw [if_neg (by unfold nearB; rw [decide_eq_true_iff]; omega)]; done)
    · skip
      have c21 := mt lc_ge.mpr c21
      rw [pk_lLE (by omega) (by omega)] at c21
      refine lv_lload_n hx hb dX9_isNearer_24 rfl (lv_at hl 1 rfl) ?_
      refine lv_lload hx hb dX9_isNearer_25 (lv_at hl 3 rfl) ?_
      refine lv_lsub hx hb dX9_isNearer_27 ?_
      refine lv_topl (fun v27 ev27 => ?_)
      obtain rfl : v27 = (lN (dst x0 b0)) := by
        rw [ev27, lN_sub (by omega)]; unfold dst; first | (rw [if_pos (by omega)]; done) | (rw [if_neg (by omega)]; done)
      refine lv_goto (tgt := 35) hx hb dX9_isNearer_28 (by decide) ?_
      refine lv_lstore (lv' := [(8, .long (lN (dst x0 b0))), (6, .long (lN (dst x0 a0))), (0, .long (lN x0)), (2, .long (lN a0)), (4, .long (lN b0))]) hx hb dX9_isNearer_35 hl (by decide) rfl (fun ls hl => ?_)
      have hd1 : dst x0 a0 < 2 ^ 40 := by unfold dst; split <;> omega
      have hd2 : dst x0 b0 < 2 ^ 40 := by unfold dst; split <;> omega
      refine lv_lload hx hb dX9_isNearer_37 (lv_at hl 1 rfl) ?_
      refine lv_lload hx hb dX9_isNearer_39 (lv_at hl 0 rfl) ?_
      refine W.lcmp hx hb dX9_isNearer_41 ?_
      refine lv_if_lt (tgt := 60) hx hb dX9_isNearer_42 (by decide) (fun c42 => ?_) (fun c42 => ?_)
      · skip
        have c42 := lc_lt.mp c42
        rw [pk_lLT (by omega) (by omega)] at c42
        refine lv_iconst (v := 1) hx hb dX9_isNearer_60 (by decide) ?_
        refine lv_goto (tgt := 65) hx hb dX9_isNearer_61 (by decide) ?_
        refine W.zret (v := 1) hx hb hr (by decide) (fun t ht hW => ⟨_, rfl, ?_, ht⟩) (fun _ h => nomatch h) dX9_isNearer_65
        first | (rw [if_pos (by unfold nearB; rw [decide_eq_true_iff]; omega)]; done) | (rw [if_neg (by unfold nearB; rw [decide_eq_true_iff]; omega)]; done)
      · skip
        have c42 := mt lc_lt.mpr c42
        rw [pk_lLT (by omega) (by omega)] at c42
        refine lv_lload hx hb dX9_isNearer_45 (lv_at hl 1 rfl) ?_
        refine lv_lload hx hb dX9_isNearer_47 (lv_at hl 0 rfl) ?_
        refine W.lcmp hx hb dX9_isNearer_49 ?_
        refine lv_if_ne (tgt := 64) hx hb dX9_isNearer_50 (by decide) (fun c50 => ?_) (fun c50 => ?_)
        · skip
          have c50 := mt lc_eq.mpr c50
          rw [pk_lEQ (by omega) (by omega)] at c50
          refine lv_iconst (v := 0) hx hb dX9_isNearer_64 (by decide) ?_
          refine W.zret (v := 0) hx hb hr (by decide) (fun t ht hW => ⟨_, rfl, ?_, ht⟩) (fun _ h => nomatch h) dX9_isNearer_65
          first | (rw [if_pos (by unfold nearB; rw [decide_eq_true_iff]; omega)]; done) | (rw [if_neg (by unfold nearB; rw [decide_eq_true_iff]; omega)]; done)
        · skip
          have c50 := lc_eq.mp c50
          rw [pk_lEQ (by omega) (by omega)] at c50
          refine lv_lload_n hx hb dX9_isNearer_53 rfl (lv_at hl 3 rfl) ?_
          refine lv_lload hx hb dX9_isNearer_54 (lv_at hl 4 rfl) ?_
          refine W.lcmp hx hb dX9_isNearer_56 ?_
          refine lv_if_ge (tgt := 64) hx hb dX9_isNearer_57 (by decide) (fun c57 => ?_) (fun c57 => ?_)
          · skip
            have c57 := lc_ge.mp c57
            rw [pk_lLE (by omega) (by omega)] at c57
            refine lv_iconst (v := 0) hx hb dX9_isNearer_64 (by decide) ?_
            refine W.zret (v := 0) hx hb hr (by decide) (fun t ht hW => ⟨_, rfl, ?_, ht⟩) (fun _ h => nomatch h) dX9_isNearer_65
            first | (rw [if_pos (by unfold nearB; rw [decide_eq_true_iff]; omega)]; done) | (rw [if_neg (by unfold nearB; rw [decide_eq_true_iff]; omega)]; done)
          · skip
            have c57 := mt lc_ge.mpr c57
            rw [pk_lLE (by omega) (by omega)] at c57
            refine lv_iconst (v := 1) hx hb dX9_isNearer_60 (by decide) ?_
            refine lv_goto (tgt := 65) hx hb dX9_isNearer_61 (by decide) ?_
            refine W.zret (v := 1) hx hb hr (by decide) (fun t ht hW => ⟨_, rfl, ?_, ht⟩) (fun _ h => nomatch h) dX9_isNearer_65
            first | (rw [if_pos (by unfold nearB; rw [decide_eq_true_iff]; omega)]; done) | (rw [if_neg (by unfold nearB; rw [decide_eq_true_iff]; omega)]; done)
set_option maxHeartbeats 4000000 in
set_option maxRecDepth 100000 in
theorem c_X9_reaches (l : Launch) (D : va_G) (y : Nat → ClassId) (ad : Nat → Nat) (cap : Nat → Nat) (I : Nat → Nat → Int32) (J : Nat → Nat → Int64) {T : Nat → Nat → Nat} (hM : RM I T) (hW : WF T) {k0 a0 b0 : Nat} (hk : k0 < 8) (hb1 : 1 ≤ T 11 k0) (ha : a0 < 2 ^ 40) (hb0 : b0 < 2 ^ 40) : Met l yX9_reaches [.code yX9_reaches cX9_reaches 10 (some .boolean)] ({ frames := 0, cells := 0, slots := 0, locals := 0 }) (va_Pc [.ref (ad 55), .int (nI k0), .long (lN a0), .long (lN b0)] (PR D y (Wd y ad cap I J))) (vp_Si (fun r => r = if rch (T 10 k0) (T 11 k0) a0 b0 = true then 1 else 0)) 0 0 (fun _ => False) := by
  refine Met.ofW (cc := cX9_reaches) (maxL := 10) (ret := (some .boolean)) (by decide) rfl ?_
  intro p e s m args below meth c s₁ B hml hv
  obtain ⟨rfl, hP, hO⟩ := hv
  have hx := B.exec
  have hb := B.bytes
  have hr := B.returns
  have hown : s.vm.findClass RX9 = some m.cls := findClass_of_methodNamed B.named
  have hlocks := B.notSynchronized
  have hK := hO.1
  have hts : ∀ w ∈ lw_E, w.before ([.ref (ad 55), .int (nI k0), .long (lN a0), .long (lN b0)] : List Value).toArray s = true := fun w h => hO.2 w h _
  clear B
  have hl := lv_entry ([.ref (ad 55), .int (nI k0), .long (lN a0), .long (lN b0)]) (n := 10) (Nat.le_of_ble_eq_true rfl)
  rw [lg_entry_eq]
  generalize (lg_sl ([.ref (ad 55), .int (nI k0), .long (lN a0), .long (lN b0)]) ++ List.replicate (10 - (lg_sl ([.ref (ad 55), .int (nI k0), .long (lN a0), .long (lN b0)])).length) Slot.unset).toArray = ls at hl ⊢
  have hl : lv_has ls 10 [(0, .ref (ad 55)), (1, .int (nI k0)), (2, .long (lN a0)), (4, .long (lN b0))] := hl
  obtain ⟨wk1, wk2⟩ := hW.2.2.2.2.1 k0 hk
  have hpw : 2 ^ T 10 k0 ≤ 2 ^ 3 := Nat.pow_le_pow_right (by omega) wk1
  refine lv_lload hx hb dX9_reaches_0 (lv_at hl 3 rfl) ?_
  refine lv_lload_n hx hb dX9_reaches_2 rfl (lv_at hl 2 rfl) ?_
  refine lv_lsub hx hb dX9_reaches_3 ?_
  refine lv_topl (fun v3 ev3 => ?_)
  refine lv_lstore (lv' := [(6, .long v3), (0, .ref (ad 55)), (1, .int (nI k0)), (2, .long (lN a0)), (4, .long (lN b0))]) hx hb dX9_reaches_4 hl (by decide) rfl (fun ls hl => ?_)
  refine lv_lconst (v := 1) hx hb dX9_reaches_6 (by decide) ?_
  refine lv_aload_n hx hb dX9_reaches_7 rfl (lv_at hl 1 rfl) ?_
  refine va_get (D := D) (T := TX9) (N := 51) hx hb hts jnX9 hown hK hP 55 (wd_55 y ad cap I J) rfl 14 (by decide) (hts _ fl_X9_41) (fun _ h9 => h9) rfl dX9_reaches_8 ?_
  refine lv_iload_n hx hb dX9_reaches_11 rfl (lv_at hl 2 rfl) ?_
  refine va_iald (D := D) hx hb hK hP 66 0 (wd_66 y ad cap I J) rfl (vp_in_nI (by omega) (by omega)) dX9_reaches_12 ?_
  rw [nI_clamp (n := k0) (by omega)]
  refine lv_topi (fun v12 ev12 => ?_)
  obtain rfl : v12 = (nI (T 11 k0)) := by
    rw [ev12, (hM.2.2.2.2 k0 hk).2]
  refine lv_iconst (v := 1) hx hb dX9_reaches_13 (by decide) ?_
  refine lv_isub hx hb dX9_reaches_14 ?_
  refine lv_topi (fun v14 ev14 => ?_)
  obtain rfl : v14 = (nI (T 11 k0 - 1)) := by
    rw [ev14, show (1 : Int32) = nI 1 from rfl, pk_sub hb1]
  refine lv_lshl hx hb dX9_reaches_15 rfl ?_
  refine lv_topl (fun v15 ev15 => ?_)
  refine lv_aload_n hx hb dX9_reaches_16 rfl (lv_at hl 1 rfl) ?_
  refine va_get (D := D) (T := TX9) (N := 51) hx hb hts jnX9 hown hK hP 55 (wd_55 y ad cap I J) rfl 13 (by decide) (hts _ fl_X9_38) (fun _ h9 => h9) rfl dX9_reaches_17 ?_
  refine lv_iload_n hx hb dX9_reaches_20 rfl (lv_at hl 2 rfl) ?_
  refine va_iald (D := D) hx hb hK hP 65 0 (wd_65 y ad cap I J) rfl (vp_in_nI (by omega) (by omega)) dX9_reaches_21 ?_
  rw [nI_clamp (n := k0) (by omega)]
  refine lv_topi (fun v21 ev21 => ?_)
  obtain rfl : v21 = (nI (2 ^ T 10 k0)) := by
    rw [ev21, (hM.2.2.2.2 k0 hk).1, stp_told hb1]
  refine lv_i2l (v := lN (2 ^ T 10 k0)) hx hb dX9_reaches_22 (nI_l (by omega)) ?_
  refine lv_lmul hx hb dX9_reaches_23 ?_
  refine lv_topl (fun v23 ev23 => ?_)
  refine lv_lstore (lv' := [(8, .long v23), (6, .long v3), (0, .ref (ad 55)), (1, .int (nI k0)), (2, .long (lN a0)), (4, .long (lN b0))]) hx hb dX9_reaches_24 hl (by decide) rfl (fun ls hl => ?_)
  refine lv_lload hx hb dX9_reaches_26 (lv_at hl 1 rfl) ?_
  refine lv_aload_n hx hb dX9_reaches_28 rfl (lv_at hl 2 rfl) ?_
  refine va_get (D := D) (T := TX9) (N := 51) hx hb hts jnX9 hown hK hP 55 (wd_55 y ad cap I J) rfl 13 (by decide) (hts _ fl_X9_38) (fun _ h9 => h9) rfl dX9_reaches_29 ?_
  refine lv_iload_n hx hb dX9_reaches_32 rfl (lv_at hl 3 rfl) ?_
  refine va_iald (D := D) hx hb hK hP 65 0 (wd_65 y ad cap I J) rfl (vp_in_nI (by omega) (by omega)) dX9_reaches_33 ?_
  rw [nI_clamp (n := k0) (by omega)]
  refine lv_topi (fun v33 ev33 => ?_)
  obtain rfl : v33 = (nI (2 ^ T 10 k0)) := by
    rw [ev33, (hM.2.2.2.2 k0 hk).1, stp_told hb1]
  refine lv_i2l (v := lN (2 ^ T 10 k0)) hx hb dX9_reaches_34 (nI_l (by omega)) ?_
  refine lv_lrem hx hb dX9_reaches_35 (lN_pow_ne wk1) ?_
  refine lv_topl (fun v35 ev35 => ?_)
  refine lv_lconst (v := 0) hx hb dX9_reaches_36 (by decide) ?_
  refine W.lcmp hx hb dX9_reaches_37 ?_
  refine lv_if_ne (tgt := 70) hx hb dX9_reaches_38 (by decide) (fun c38 => ?_) (fun c38 => ?_)
  · skip
    have c38 := mt lc_eq.mpr c38
    refine lv_iconst (v := 0) hx hb dX9_reaches_70 (by decide) ?_
    refine W.zret (v := 0) hx hb hr (by decide) (fun t ht hW => ⟨_, rfl, ?_, ht⟩) (fun _ h => nomatch h) dX9_reaches_71
    first | (rw [if_neg (fun h9 => c38 ((rch_model wk1 hb1 wk2 ha hb0 ev3 rfl ev15 ev23 ev35).mpr h9).1)]; done) | (subst ev45 ev61; rw [if_pos ((rch_model wk1 hb1 wk2 ha hb0 ev3 rfl ev15 ev23 ev35).mp ⟨c38, c47, c63⟩)]; done) | (subst ev45; rw [if_neg (fun h9 => ((rch_model wk1 hb1 wk2 ha hb0 ev3 rfl ev15 ev23 ev35).mpr h9).2.1 c47)]; done) | (subst ev45 ev61; rw [if_neg (fun h9 => ((rch_model wk1 hb1 wk2 ha hb0 ev3 rfl ev15 ev23 ev35).mpr h9).2.2 c63)]; done)
  · skip
    have c38 := lc_eq.mp c38
    refine lv_lload hx hb dX9_reaches_41 (lv_at hl 1 rfl) ?_
    refine lv_lload hx hb dX9_reaches_43 (lv_at hl 0 rfl) ?_
    refine lv_lneg hx hb dX9_reaches_45 ?_
    refine lv_topl (fun v45 ev45 => ?_)
    refine W.lcmp hx hb dX9_reaches_46 ?_
    refine lv_if_lt (tgt := 70) hx hb dX9_reaches_47 (by decide) (fun c47 => ?_) (fun c47 => ?_)
    · skip
      have c47 := lc_lt.mp c47
      refine lv_iconst (v := 0) hx hb dX9_reaches_70 (by decide) ?_
      refine W.zret (v := 0) hx hb hr (by decide) (fun t ht hW => ⟨_, rfl, ?_, ht⟩) (fun _ h => nomatch h) dX9_reaches_71
      first | (rw [if_neg (fun h9 => c38 ((rch_model wk1 hb1 wk2 ha hb0 ev3 rfl ev15 ev23 ev35).mpr h9).1)]; done) | (subst ev45 ev61; rw [if_pos ((rch_model wk1 hb1 wk2 ha hb0 ev3 rfl ev15 ev23 ev35).mp ⟨c38, c47, c63⟩)]; done) | (subst ev45; rw [if_neg (fun h9 => ((rch_model wk1 hb1 wk2 ha hb0 ev3 rfl ev15 ev23 ev35).mpr h9).2.1 c47)]; done) | (subst ev45 ev61; rw [if_neg (fun h9 => ((rch_model wk1 hb1 wk2 ha hb0 ev3 rfl ev15 ev23 ev35).mpr h9).2.2 c63)]; done)
    · skip
      have c47 := mt lc_lt.mpr c47
      refine lv_lload hx hb dX9_reaches_50 (lv_at hl 1 rfl) ?_
      refine lv_lload hx hb dX9_reaches_52 (lv_at hl 0 rfl) ?_
      refine lv_aload_n hx hb dX9_reaches_54 rfl (lv_at hl 2 rfl) ?_
      refine va_get (D := D) (T := TX9) (N := 51) hx hb hts jnX9 hown hK hP 55 (wd_55 y ad cap I J) rfl 13 (by decide) (hts _ fl_X9_38) (fun _ h9 => h9) rfl dX9_reaches_55 ?_
      refine lv_iload_n hx hb dX9_reaches_58 rfl (lv_at hl 3 rfl) ?_
      refine va_iald (D := D) hx hb hK hP 65 0 (wd_65 y ad cap I J) rfl (vp_in_nI (by omega) (by omega)) dX9_reaches_59 ?_
      rw [nI_clamp (n := k0) (by omega)]
      refine lv_topi (fun v59 ev59 => ?_)
      obtain rfl : v59 = (nI (2 ^ T 10 k0)) := by
        rw [ev59, (hM.2.2.2.2 k0 hk).1, stp_told hb1]
      refine lv_i2l (v := lN (2 ^ T 10 k0)) hx hb dX9_reaches_60 (nI_l (by omega)) ?_
      refine lv_lsub hx hb dX9_reaches_61 ?_
      refine lv_topl (fun v61 ev61 => ?_)
      refine W.lcmp hx hb dX9_reaches_62 ?_
      refine lv_if_gt (tgt := 70) hx hb dX9_reaches_63 (by decide) (fun c63 => ?_) (fun c63 => ?_)
      · skip
        have c63 := lc_gt.mp c63
        refine lv_iconst (v := 0) hx hb dX9_reaches_70 (by decide) ?_
        refine W.zret (v := 0) hx hb hr (by decide) (fun t ht hW => ⟨_, rfl, ?_, ht⟩) (fun _ h => nomatch h) dX9_reaches_71
        first | (rw [if_neg (fun h9 => c38 ((rch_model wk1 hb1 wk2 ha hb0 ev3 rfl ev15 ev23 ev35).mpr h9).1)]; done) | (subst ev45 ev61; rw [if_pos ((rch_model wk1 hb1 wk2 ha hb0 ev3 rfl ev15 ev23 ev35).mp ⟨c38, c47, c63⟩)]; done) | (subst ev45; rw [if_neg (fun h9 => ((rch_model wk1 hb1 wk2 ha hb0 ev3 rfl ev15 ev23 ev35).mpr h9).2.1 c47)]; done) | (subst ev45 ev61; rw [if_neg (fun h9 => ((rch_model wk1 hb1 wk2 ha hb0 ev3 rfl ev15 ev23 ev35).mpr h9).2.2 c63)]; done)
      · skip
        have c63 := mt lc_gt.mpr c63
        refine lv_iconst (v := 1) hx hb dX9_reaches_66 (by decide) ?_
        refine lv_goto (tgt := 71) hx hb dX9_reaches_67 (by decide) ?_
        refine W.zret (v := 1) hx hb hr (by decide) (fun t ht hW => ⟨_, rfl, ?_, ht⟩) (fun _ h => nomatch h) dX9_reaches_71
        first | (rw [if_neg (fun h9 => c38 ((rch_model wk1 hb1 wk2 ha hb0 ev3 rfl ev15 ev23 ev35).mpr h9).1)]; done) | (subst ev45 ev61; rw [if_pos ((rch_model wk1 hb1 wk2 ha hb0 ev3 rfl ev15 ev23 ev35).mp ⟨c38, c47, c63⟩)]; done) | (subst ev45; rw [if_neg (fun h9 => ((rch_model wk1 hb1 wk2 ha hb0 ev3 rfl ev15 ev23 ev35).mpr h9).2.1 c47)]; done) | (subst ev45 ev61; rw [if_neg (fun h9 => ((rch_model wk1 hb1 wk2 ha hb0 ev3 rfl ev15 ev23 ev35).mpr h9).2.2 c63)]; done)
set_option maxHeartbeats 4000000 in
set_option maxRecDepth 100000 in
theorem c_X9_laidReaches (l : Launch) (D : va_G) (y : Nat → ClassId) (ad : Nat → Nat) (cap : Nat → Nat) (I : Nat → Nat → Int32) (J : Nat → Nat → Int64) {T : Nat → Nat → Nat} (hK9 : ∀ k, k < 8 → I 77 k = nI (stpN T k) ∧ I 78 k = nI (T 11 k)) (hW : WF T) {k0 a0 b0 : Nat} (hk : k0 < 8) (hb1 : 1 ≤ T 11 k0) (ha : a0 < 2 ^ 40) (hb0 : b0 < 2 ^ 40) : Met l yX9_laidReaches [.code yX9_laidReaches cX9_laidReaches 10 (some .boolean)] ({ frames := 0, cells := 0, slots := 0, locals := 0 }) (va_Pc [.ref (ad 55), .int (nI k0), .long (lN a0), .long (lN b0)] (PR D y (Wd y ad cap I J))) (vp_Si (fun r => r = if rch (T 10 k0) (T 11 k0) a0 b0 = true then 1 else 0)) 0 0 (fun _ => False) := by
  refine Met.ofW (cc := cX9_laidReaches) (maxL := 10) (ret := (some .boolean)) (by decide) rfl ?_
  intro p e s m args below meth c s₁ B hml hv
  obtain ⟨rfl, hP, hO⟩ := hv
  have hx := B.exec
  have hb := B.bytes
  have hr := B.returns
  have hown : s.vm.findClass RX9 = some m.cls := findClass_of_methodNamed B.named
  have hlocks := B.notSynchronized
  have hK := hO.1
  have hts : ∀ w ∈ lw_E, w.before ([.ref (ad 55), .int (nI k0), .long (lN a0), .long (lN b0)] : List Value).toArray s = true := fun w h => hO.2 w h _
  clear B
  have hl := lv_entry ([.ref (ad 55), .int (nI k0), .long (lN a0), .long (lN b0)]) (n := 10) (Nat.le_of_ble_eq_true rfl)
  rw [lg_entry_eq]
  generalize (lg_sl ([.ref (ad 55), .int (nI k0), .long (lN a0), .long (lN b0)]) ++ List.replicate (10 - (lg_sl ([.ref (ad 55), .int (nI k0), .long (lN a0), .long (lN b0)])).length) Slot.unset).toArray = ls at hl ⊢
  have hl : lv_has ls 10 [(0, .ref (ad 55)), (1, .int (nI k0)), (2, .long (lN a0)), (4, .long (lN b0))] := hl
  obtain ⟨wk1, wk2⟩ := hW.2.2.2.2.1 k0 hk
  have hpw : 2 ^ T 10 k0 ≤ 2 ^ 3 := Nat.pow_le_pow_right (by omega) wk1
  refine lv_lload hx hb dX9_laidReaches_0 (lv_at hl 3 rfl) ?_
  refine lv_lload_n hx hb dX9_laidReaches_2 rfl (lv_at hl 2 rfl) ?_
  refine lv_lsub hx hb dX9_laidReaches_3 ?_
  refine lv_topl (fun v3 ev3 => ?_)
  refine lv_lstore (lv' := [(6, .long v3), (0, .ref (ad 55)), (1, .int (nI k0)), (2, .long (lN a0)), (4, .long (lN b0))]) hx hb dX9_laidReaches_4 hl (by decide) rfl (fun ls hl => ?_)
  refine lv_lconst (v := 1) hx hb dX9_laidReaches_6 (by decide) ?_
  refine lv_aload_n hx hb dX9_laidReaches_7 rfl (lv_at hl 1 rfl) ?_
  refine va_get (D := D) (T := TX9) (N := 51) hx hb hts jnX9 hown hK hP 55 (wd_55 y ad cap I J) rfl 39 (by decide) (hts _ fl_X9_78) (fun _ h9 => h9) rfl dX9_laidReaches_8 ?_
  refine lv_iload_n hx hb dX9_laidReaches_11 rfl (lv_at hl 2 rfl) ?_
  refine va_iald (D := D) hx hb hK hP 78 0 (wd_78 y ad cap I J) rfl (vp_in_nI (by omega) (by omega)) dX9_laidReaches_12 ?_
  rw [nI_clamp (n := k0) (by omega)]
  refine lv_topi (fun v12 ev12 => ?_)
  obtain rfl : v12 = (nI (T 11 k0)) := by
    rw [ev12, (hK9 k0 hk).2]
  refine lv_iconst (v := 1) hx hb dX9_laidReaches_13 (by decide) ?_
  refine lv_isub hx hb dX9_laidReaches_14 ?_
  refine lv_topi (fun v14 ev14 => ?_)
  obtain rfl : v14 = (nI (T 11 k0 - 1)) := by
    rw [ev14, show (1 : Int32) = nI 1 from rfl, pk_sub hb1]
  refine lv_lshl hx hb dX9_laidReaches_15 rfl ?_
  refine lv_topl (fun v15 ev15 => ?_)
  refine lv_aload_n hx hb dX9_laidReaches_16 rfl (lv_at hl 1 rfl) ?_
  refine va_get (D := D) (T := TX9) (N := 51) hx hb hts jnX9 hown hK hP 55 (wd_55 y ad cap I J) rfl 38 (by decide) (hts _ fl_X9_75) (fun _ h9 => h9) rfl dX9_laidReaches_17 ?_
  refine lv_iload_n hx hb dX9_laidReaches_20 rfl (lv_at hl 2 rfl) ?_
  refine va_iald (D := D) hx hb hK hP 77 0 (wd_77 y ad cap I J) rfl (vp_in_nI (by omega) (by omega)) dX9_laidReaches_21 ?_
  rw [nI_clamp (n := k0) (by omega)]
  refine lv_topi (fun v21 ev21 => ?_)
  obtain rfl : v21 = (nI (2 ^ T 10 k0)) := by
    rw [ev21, (hK9 k0 hk).1, stp_told hb1]
  refine lv_i2l (v := lN (2 ^ T 10 k0)) hx hb dX9_laidReaches_22 (nI_l (by omega)) ?_
  refine lv_lmul hx hb dX9_laidReaches_23 ?_
  refine lv_topl (fun v23 ev23 => ?_)
  refine lv_lstore (lv' := [(8, .long v23), (6, .long v3), (0, .ref (ad 55)), (1, .int (nI k0)), (2, .long (lN a0)), (4, .long (lN b0))]) hx hb dX9_laidReaches_24 hl (by decide) rfl (fun ls hl => ?_)
  refine lv_lload hx hb dX9_laidReaches_26 (lv_at hl 1 rfl) ?_
  refine lv_aload_n hx hb dX9_laidReaches_28 rfl (lv_at hl 2 rfl) ?_
  refine va_get (D := D) (T := TX9) (N := 51) hx hb hts jnX9 hown hK hP 55 (wd_55 y ad cap I J) rfl 38 (by decide) (hts _ fl_X9_75) (fun _ h9 => h9) rfl dX9_laidReaches_29 ?_
  refine lv_iload_n hx hb dX9_laidReaches_32 rfl (lv_at hl 3 rfl) ?_
  refine va_iald (D := D) hx hb hK hP 77 0 (wd_77 y ad cap I J) rfl (vp_in_nI (by omega) (by omega)) dX9_laidReaches_33 ?_
  rw [nI_clamp (n := k0) (by omega)]
  refine lv_topi (fun v33 ev33 => ?_)
  obtain rfl : v33 = (nI (2 ^ T 10 k0)) := by
    rw [ev33, (hK9 k0 hk).1, stp_told hb1]
  refine lv_i2l (v := lN (2 ^ T 10 k0)) hx hb dX9_laidReaches_34 (nI_l (by omega)) ?_
  refine lv_lrem hx hb dX9_laidReaches_35 (lN_pow_ne wk1) ?_
  refine lv_topl (fun v35 ev35 => ?_)
  refine lv_lconst (v := 0) hx hb dX9_laidReaches_36 (by decide) ?_
  refine W.lcmp hx hb dX9_laidReaches_37 ?_
  refine lv_if_ne (tgt := 70) hx hb dX9_laidReaches_38 (by decide) (fun c38 => ?_) (fun c38 => ?_)
  · skip
    have c38 := mt lc_eq.mpr c38
    refine lv_iconst (v := 0) hx hb dX9_laidReaches_70 (by decide) ?_
    refine W.zret (v := 0) hx hb hr (by decide) (fun t ht hW => ⟨_, rfl, ?_, ht⟩) (fun _ h => nomatch h) dX9_laidReaches_71
    first | (rw [if_neg (fun h9 => c38 ((rch_model wk1 hb1 wk2 ha hb0 ev3 rfl ev15 ev23 ev35).mpr h9).1)]; done) | (subst ev45 ev61; rw [if_pos ((rch_model wk1 hb1 wk2 ha hb0 ev3 rfl ev15 ev23 ev35).mp ⟨c38, c47, c63⟩)]; done) | (subst ev45; rw [if_neg (fun h9 => ((rch_model wk1 hb1 wk2 ha hb0 ev3 rfl ev15 ev23 ev35).mpr h9).2.1 c47)]; done) | (subst ev45 ev61; rw [if_neg (fun h9 => ((rch_model wk1 hb1 wk2 ha hb0 ev3 rfl ev15 ev23 ev35).mpr h9).2.2 c63)]; done)
  · skip
    have c38 := lc_eq.mp c38
    refine lv_lload hx hb dX9_laidReaches_41 (lv_at hl 1 rfl) ?_
    refine lv_lload hx hb dX9_laidReaches_43 (lv_at hl 0 rfl) ?_
    refine lv_lneg hx hb dX9_laidReaches_45 ?_
    refine lv_topl (fun v45 ev45 => ?_)
    refine W.lcmp hx hb dX9_laidReaches_46 ?_
    refine lv_if_lt (tgt := 70) hx hb dX9_laidReaches_47 (by decide) (fun c47 => ?_) (fun c47 => ?_)
    · skip
      have c47 := lc_lt.mp c47
      refine lv_iconst (v := 0) hx hb dX9_laidReaches_70 (by decide) ?_
      refine W.zret (v := 0) hx hb hr (by decide) (fun t ht hW => ⟨_, rfl, ?_, ht⟩) (fun _ h => nomatch h) dX9_laidReaches_71
      first | (rw [if_neg (fun h9 => c38 ((rch_model wk1 hb1 wk2 ha hb0 ev3 rfl ev15 ev23 ev35).mpr h9).1)]; done) | (subst ev45 ev61; rw [if_pos ((rch_model wk1 hb1 wk2 ha hb0 ev3 rfl ev15 ev23 ev35).mp ⟨c38, c47, c63⟩)]; done) | (subst ev45; rw [if_neg (fun h9 => ((rch_model wk1 hb1 wk2 ha hb0 ev3 rfl ev15 ev23 ev35).mpr h9).2.1 c47)]; done) | (subst ev45 ev61; rw [if_neg (fun h9 => ((rch_model wk1 hb1 wk2 ha hb0 ev3 rfl ev15 ev23 ev35).mpr h9).2.2 c63)]; done)
    · skip
      have c47 := mt lc_lt.mpr c47
      refine lv_lload hx hb dX9_laidReaches_50 (lv_at hl 1 rfl) ?_
      refine lv_lload hx hb dX9_laidReaches_52 (lv_at hl 0 rfl) ?_
      refine lv_aload_n hx hb dX9_laidReaches_54 rfl (lv_at hl 2 rfl) ?_
      refine va_get (D := D) (T := TX9) (N := 51) hx hb hts jnX9 hown hK hP 55 (wd_55 y ad cap I J) rfl 38 (by decide) (hts _ fl_X9_75) (fun _ h9 => h9) rfl dX9_laidReaches_55 ?_
      refine lv_iload_n hx hb dX9_laidReaches_58 rfl (lv_at hl 3 rfl) ?_
      refine va_iald (D := D) hx hb hK hP 77 0 (wd_77 y ad cap I J) rfl (vp_in_nI (by omega) (by omega)) dX9_laidReaches_59 ?_
      rw [nI_clamp (n := k0) (by omega)]
      refine lv_topi (fun v59 ev59 => ?_)
      obtain rfl : v59 = (nI (2 ^ T 10 k0)) := by
        rw [ev59, (hK9 k0 hk).1, stp_told hb1]
      refine lv_i2l (v := lN (2 ^ T 10 k0)) hx hb dX9_laidReaches_60 (nI_l (by omega)) ?_
      refine lv_lsub hx hb dX9_laidReaches_61 ?_
      refine lv_topl (fun v61 ev61 => ?_)
      refine W.lcmp hx hb dX9_laidReaches_62 ?_
      refine lv_if_gt (tgt := 70) hx hb dX9_laidReaches_63 (by decide) (fun c63 => ?_) (fun c63 => ?_)
      · skip
        have c63 := lc_gt.mp c63
        refine lv_iconst (v := 0) hx hb dX9_laidReaches_70 (by decide) ?_
        refine W.zret (v := 0) hx hb hr (by decide) (fun t ht hW => ⟨_, rfl, ?_, ht⟩) (fun _ h => nomatch h) dX9_laidReaches_71
        first | (rw [if_neg (fun h9 => c38 ((rch_model wk1 hb1 wk2 ha hb0 ev3 rfl ev15 ev23 ev35).mpr h9).1)]; done) | (subst ev45 ev61; rw [if_pos ((rch_model wk1 hb1 wk2 ha hb0 ev3 rfl ev15 ev23 ev35).mp ⟨c38, c47, c63⟩)]; done) | (subst ev45; rw [if_neg (fun h9 => ((rch_model wk1 hb1 wk2 ha hb0 ev3 rfl ev15 ev23 ev35).mpr h9).2.1 c47)]; done) | (subst ev45 ev61; rw [if_neg (fun h9 => ((rch_model wk1 hb1 wk2 ha hb0 ev3 rfl ev15 ev23 ev35).mpr h9).2.2 c63)]; done)
      · skip
        have c63 := mt lc_gt.mpr c63
        refine lv_iconst (v := 1) hx hb dX9_laidReaches_66 (by decide) ?_
        refine lv_goto (tgt := 71) hx hb dX9_laidReaches_67 (by decide) ?_
        refine W.zret (v := 1) hx hb hr (by decide) (fun t ht hW => ⟨_, rfl, ?_, ht⟩) (fun _ h => nomatch h) dX9_laidReaches_71
        first | (rw [if_neg (fun h9 => c38 ((rch_model wk1 hb1 wk2 ha hb0 ev3 rfl ev15 ev23 ev35).mpr h9).1)]; done) | (subst ev45 ev61; rw [if_pos ((rch_model wk1 hb1 wk2 ha hb0 ev3 rfl ev15 ev23 ev35).mp ⟨c38, c47, c63⟩)]; done) | (subst ev45; rw [if_neg (fun h9 => ((rch_model wk1 hb1 wk2 ha hb0 ev3 rfl ev15 ev23 ev35).mpr h9).2.1 c47)]; done) | (subst ev45 ev61; rw [if_neg (fun h9 => ((rch_model wk1 hb1 wk2 ha hb0 ev3 rfl ev15 ev23 ev35).mpr h9).2.2 c63)]; done)
set_option maxHeartbeats 4000000 in
set_option maxRecDepth 100000 in
theorem c_X9_isDirect (l : Launch) (D : va_G) (y : Nat → ClassId) (ad : Nat → Nat) (cap : Nat → Nat) (I : Nat → Nat → Int32) (J : Nat → Nat → Int64) {T : Nat → Nat → Nat} {M : List Th} (hM : RM I T) (hW : WF T) (hA : MA J T M) (hlM : M.length ≤ 2400) {b0 : Nat} (hb0 : b0 < T 0 2) : Met l yX9_isDirect [.code yX9_isDirect cX9_isDirect 2 (some .boolean)] ({ frames := 1, cells := 0, slots := 0, locals := 29 }) (va_Pc [.ref (ad 55), .int (nI b0)] (PR D y (Wd y ad cap I J))) (vp_Si (fun r => r = if dirB T (cnt M) b0 = true then 1 else 0)) 0 0 (fun _ => False) := by
  refine Met.ofW (cc := cX9_isDirect) (maxL := 2) (ret := (some .boolean)) (by decide) rfl ?_
  intro p e s m args below meth c s₁ B hml hv
  obtain ⟨rfl, hP, hO⟩ := hv
  have hx := B.exec
  have hb := B.bytes
  have hr := B.returns
  have hown : s.vm.findClass RX9 = some m.cls := findClass_of_methodNamed B.named
  have hlocks := B.notSynchronized
  have hK := hO.1
  have hts : ∀ w ∈ lw_E, w.before ([.ref (ad 55), .int (nI b0)] : List Value).toArray s = true := fun w h => hO.2 w h _
  clear B
  have hl := lv_entry ([.ref (ad 55), .int (nI b0)]) (n := 2) (Nat.le_of_ble_eq_true rfl)
  rw [lg_entry_eq]
  generalize (lg_sl ([.ref (ad 55), .int (nI b0)]) ++ List.replicate (2 - (lg_sl ([.ref (ad 55), .int (nI b0)])).length) Slot.unset).toArray = ls at hl ⊢
  have hl : lv_has ls 2 [(0, .ref (ad 55)), (1, .int (nI b0))] := hl
  have hW0 := hW
  obtain ⟨⟨w1, w2, w3, w4, w5, w6, w7⟩, wS, wL, wB, wK, wTk, wT0⟩ := hW
  obtain ⟨x1, x2, x6, x7, x8⟩ := wB b0 hb0
  obtain ⟨x3, x4, x5⟩ := wS _ x1
  have hnM : ∀ s, cnt M s ≤ 2400 := fun s => Nat.le_trans (cnt_le M s) hlM
  have hbr := braA_le hW0 hnM hb0
  have hlb := labA_le hW0 hnM x8
  refine lv_aload_n hx hb dX9_isDirect_0 rfl (lv_at hl 0 rfl) ?_
  refine lv_aload_n hx hb dX9_isDirect_1 rfl (lv_at hl 0 rfl) ?_
  refine va_get (D := D) (T := TX9) (N := 51) hx hb hts jnX9 hown hK hP 55 (wd_55 y ad cap I J) rfl 11 (by decide) (hts _ fl_X9_32) (fun _ h9 => h9) rfl dX9_isDirect_2 ?_
  refine lv_iload_n hx hb dX9_isDirect_5 rfl (lv_at hl 1 rfl) ?_
  refine va_iald (D := D) hx hb hK hP 63 0 (wd_63 y ad cap I J) rfl (vp_in_nI (by omega) (by omega)) dX9_isDirect_6 ?_
  rw [nI_clamp (n := b0) (by omega)]
  refine lv_topi (fun v6 ev6 => ?_)
  obtain rfl : v6 = (nI (T 8 b0)) := by
    rw [ev6]; exact (hM.2.2.2.1 _ (by omega)).2.2.1
  refine lv_aload_n hx hb dX9_isDirect_7 rfl (lv_at hl 0 rfl) ?_
  refine va_get (D := D) (T := TX9) (N := 51) hx hb hts jnX9 hown hK hP 55 (wd_55 y ad cap I J) rfl 33 (by decide) (hts _ fl_X9_60) (fun _ h9 => h9) rfl dX9_isDirect_8 ?_
  refine lv_iload_n hx hb dX9_isDirect_11 rfl (lv_at hl 1 rfl) ?_
  refine va_lald (D := D) hx hb hK hP 72 1 (wd_72 y ad cap I J) rfl (vp_in_nI (by omega) (by omega)) dX9_isDirect_12 ?_
  rw [nI_clamp (n := b0) (by omega)]
  refine lv_topl (fun v12 ev12 => ?_)
  obtain rfl : v12 = (lN (braA T (cnt M) b0)) := by
    rw [ev12]; exact hA.2.2.1 _ (by omega)
  refine lv_aload_n hx hb dX9_isDirect_13 rfl (lv_at hl 0 rfl) ?_
  refine va_get (D := D) (T := TX9) (N := 51) hx hb hts jnX9 hown hK hP 55 (wd_55 y ad cap I J) rfl 32 (by decide) (hts _ fl_X9_57) (fun _ h9 => h9) rfl dX9_isDirect_14 ?_
  refine lv_aload_n hx hb dX9_isDirect_17 rfl (lv_at hl 0 rfl) ?_
  refine va_get (D := D) (T := TX9) (N := 51) hx hb hts jnX9 hown hK hP 55 (wd_55 y ad cap I J) rfl 12 (by decide) (hts _ fl_X9_35) (fun _ h9 => h9) rfl dX9_isDirect_18 ?_
  refine lv_iload_n hx hb dX9_isDirect_21 rfl (lv_at hl 1 rfl) ?_
  refine va_iald (D := D) hx hb hK hP 64 0 (wd_64 y ad cap I J) rfl (vp_in_nI (by omega) (by omega)) dX9_isDirect_22 ?_
  rw [nI_clamp (n := b0) (by omega)]
  refine lv_topi (fun v22 ev22 => ?_)
  obtain rfl : v22 = (nI (T 9 b0)) := by
    rw [ev22]; exact (hM.2.2.2.1 _ (by omega)).2.2.2
  refine va_lald (D := D) hx hb hK hP 71 1 (wd_71 y ad cap I J) rfl (vp_in_nI (by omega) (by omega)) dX9_isDirect_23 ?_
  rw [nI_clamp (n := T 9 b0) (by omega)]
  refine lv_topl (fun v23 ev23 => ?_)
  obtain rfl : v23 = (lN (labA T (cnt M) (T 9 b0))) := by
    rw [ev23]; exact hA.2.1 _ (by omega)
  refine rk_i (run_v (As := [.int (nI (T 8 b0)), .long (lN (braA T (cnt M) b0)), .long (lN (labA T (cnt M) (T 9 b0)))]) (rest := []) (b := (ad 55)) hx hb hml hown hO.2 (c_X9_reaches l D y ad cap I J hM hW0 (k0 := T 8 b0) x6 x7 (by omega) (by omega)) k_X9_reaches ml_X9_147 ⟨rfl, rfl⟩ ⟨Nat.le_of_ble_eq_true rfl, Nat.le_of_ble_eq_true rfl⟩ (pre_VR hO hP (wd_55 y ad cap I J) rfl) rfl hl.1 rfl (Nat.le_of_ble_eq_true rfl) dX9_isDirect_24 ⟨(Nat.zero_le _), (Nat.zero_le _)⟩) (fun r24 er24 => ?_)
  try dsimp only at er24
  refine W.zret (v := r24) hx hb hr (if01_narrow er24) (fun t ht hW => ⟨_, rfl, ?_, ht⟩) (fun _ h => nomatch h) dX9_isDirect_27
  exact er24
def hasB (L : List Th) (s l f : Nat) : Nat → Bool
  | 0 => false
  | k + 1 => hasB L s l f k || (decide (f ≤ k) && isT s l (thA L k))
theorem hasB_iff {L : List Th} {s l f : Nat} : ∀ k, hasB L s l f k = true ↔ ∃ t, f ≤ t ∧ t < k ∧ isT s l (thA L t) = true := by
  intro k
  induction k with
  | zero => simp [hasB]
  | succ k ih =>
    simp only [hasB, Bool.or_eq_true, Bool.and_eq_true, decide_eq_true_iff, ih]
    constructor
    · rintro (⟨t, h1, h2, h3⟩ | ⟨h1, h2⟩)
      · exact ⟨t, h1, by omega, h3⟩
      · exact ⟨k, h1, by omega, h2⟩
    · rintro ⟨t, h1, h2, h3⟩
      rcases lt_s2 h2 with rfl | h9
      · exact Or.inr ⟨h1, h3⟩
      · exact Or.inl ⟨t, h1, h9, h3⟩
theorem isT_iff {s l : Nat} {x : Th} : isT s l x = true ↔ x.1 = s ∧ x.2.1 = l := by
  unfold isT
  rw [Bool.and_eq_true, beq_iff_eq, beq_iff_eq]
theorem inB_iff {L : List Th} {s l : Nat} : inB L s l = true ↔ ∃ t, t < L.length ∧ isT s l (thA L t) = true := by
  rw [inB_fnd]
  constructor
  · rintro ⟨t, h⟩
    exact ⟨t, fnd_lt h, isT_iff.mpr (fnd_at h)⟩
  · rintro ⟨t, h1, h2⟩
    cases hf : fnd L s l with
    | some u => exact ⟨u, rfl⟩
    | none => exact absurd (isT_iff.mp h2) (inB_false (fnd_none.mp hf) h1)
theorem hasB_made {M F : List Th} {s l : Nat} : hasB (M ++ F) s l 0 M.length = inB M s l := by
  rw [Bool.eq_iff_iff, hasB_iff, inB_iff]
  constructor
  · rintro ⟨t, _, h2, h3⟩
    rw [thA_app h2] at h3
    exact ⟨t, h2, h3⟩
  · rintro ⟨t, h2, h3⟩
    exact ⟨t, by omega, h2, by rw [thA_app h2]; exact h3⟩
theorem thA_right {M F : List Th} {t : Nat} (h : M.length ≤ t) : thA (M ++ F) t = thA F (t - M.length) := by
  unfold thA
  rw [List.getD_eq_getElem?_getD, List.getD_eq_getElem?_getD, List.getElem?_append_right h]
theorem hasB_want {M F : List Th} {s l : Nat} : hasB (M ++ F) s l M.length (M ++ F).length = inB F s l := by
  rw [Bool.eq_iff_iff, hasB_iff, inB_iff]
  constructor
  · rintro ⟨t, h1, h2, h3⟩
    rw [thA_right h1] at h3
    rw [List.length_append] at h2
    exact ⟨t - M.length, by omega, h3⟩
  · rintro ⟨t, h2, h3⟩
    refine ⟨M.length + t, by omega, by rw [List.length_append]; omega, ?_⟩
    rw [thA_right (by omega), Nat.add_sub_cancel_left]
    exact h3
set_option maxHeartbeats 4000000 in
set_option maxRecDepth 100000 in
theorem c_X9_hasThunk (l : Launch) (D : va_G) (y : Nat → ClassId) (ad : Nat → Nat) (cap : Nat → Nat) (I : Nat → Nat → Int32) (J : Nat → Nat → Int64) {L : List Th} (hMT : MT I L) (hL24 : L.length ≤ 2400) (hbd : ∀ t, t < L.length → (thA L t).1 < 2 ^ 31 ∧ (thA L t).2.1 < 2 ^ 31 ∧ True ∧ True ∧ True) {s0 l0 f0 t0 : Nat} (hs0 : s0 < 2 ^ 31) (hl0 : l0 < 2 ^ 31) (hf0 : f0 ≤ t0) (ht0 : t0 ≤ L.length) : Met l yX9_hasThunk [.code yX9_hasThunk cX9_hasThunk 7 (some .boolean)] ({ frames := 0, cells := 0, slots := 0, locals := 0 }) (va_Pc [.ref (ad 55), .int (nI s0), .int (nI l0), .int (nI f0), .int (nI t0)] (PR D y (Wd y ad cap I J))) (vp_Si (fun r => r = (if hasB L s0 l0 f0 t0 = true then (1 : Int32) else 0))) 0 0 (fun _ => False) := by
  refine Met.ofW (cc := cX9_hasThunk) (maxL := 7) (ret := (some .boolean)) (by decide) rfl ?_
  intro p e s m args below meth c s₁ B hml hv
  obtain ⟨rfl, hP, hO⟩ := hv
  have hx := B.exec
  have hb := B.bytes
  have hr := B.returns
  have hown : s.vm.findClass RX9 = some m.cls := findClass_of_methodNamed B.named
  have hlocks := B.notSynchronized
  have hK := hO.1
  have hts : ∀ w ∈ lw_E, w.before ([.ref (ad 55), .int (nI s0), .int (nI l0), .int (nI f0), .int (nI t0)] : List Value).toArray s = true := fun w h => hO.2 w h _
  clear B
  have hl := lv_entry ([.ref (ad 55), .int (nI s0), .int (nI l0), .int (nI f0), .int (nI t0)]) (n := 7) (Nat.le_of_ble_eq_true rfl)
  rw [lg_entry_eq]
  generalize (lg_sl ([.ref (ad 55), .int (nI s0), .int (nI l0), .int (nI f0), .int (nI t0)]) ++ List.replicate (7 - (lg_sl ([.ref (ad 55), .int (nI s0), .int (nI l0), .int (nI f0), .int (nI t0)])).length) Slot.unset).toArray = ls at hl ⊢
  have hl : lv_has ls 7 [(0, .ref (ad 55)), (1, .int (nI s0)), (2, .int (nI l0)), (3, .int (nI f0)), (4, .int (nI t0))] := hl
  refine lv_iconst (v := 0) hx hb dX9_hasThunk_0 (by decide) ?_
  refine lv_istore (lv' := [(5, .int 0), (0, .ref (ad 55)), (1, .int (nI s0)), (2, .int (nI l0)), (3, .int (nI f0)), (4, .int (nI t0))]) hx hb dX9_hasThunk_1 hl (by decide) rfl (fun ls hl => ?_)
  refine lv_iload_n hx hb dX9_hasThunk_3 rfl (lv_at hl 4 rfl) ?_
  refine lv_istore (lv' := [(6, .int (nI f0)), (5, .int 0), (0, .ref (ad 55)), (1, .int (nI s0)), (2, .int (nI l0)), (3, .int (nI f0)), (4, .int (nI t0))]) hx hb dX9_hasThunk_4 hl (by decide) rfl (fun ls hl => ?_)
  have loop6 : ∀ (n6 : Nat) (k : Nat) , (f0 ≤ k) → (k ≤ t0) → t0 + 1 ≤ k + n6 → ∀ ls : Array Slot, lv_has ls 7 [(0, .ref (ad 55)), (1, .int (nI s0)), (2, .int (nI l0)), (4, .int (nI t0)), (5, .int (if hasB L s0 l0 f0 k = true then (1 : Int32) else 0)), (6, .int (nI k))] → W p l e (headSpec [.code yX9_hasThunk cX9_hasThunk 7 (some .boolean)] ({ frames := 0, cells := 0, slots := 0, locals := 0 })).room s m ([.ref (ad 55), .int (nI s0), .int (nI l0), .int (nI f0), .int (nI t0)] : List Value).toArray below meth c s.heap [] 0 0 (MQ below (vp_Si (fun r => r = (if hasB L s0 l0 f0 t0 = true then (1 : Int32) else 0))) ([.ref (ad 55), .int (nI s0), .int (nI l0), .int (nI f0), .int (nI t0)] : List Value).toArray s 0 0 (fun _ => False)) (F0 m 6 ls []) := by
    intro n6
    induction n6 with
    | zero =>
      intro k hk1 hk hmeas
      exact absurd hmeas (by omega)
    | succ n6 ih6 =>
      intro k hk1 hk hmeas ls hl
      refine lv_iload hx hb dX9_hasThunk_6 (lv_at hl 5 rfl) ?_
      refine lv_iload hx hb dX9_hasThunk_8 (lv_at hl 3 rfl) ?_
      refine lv_icmp_ge (tgt := 53) hx hb dX9_hasThunk_10 (by decide) (fun c10 => ?_) (fun c10 => ?_)
      · skip
        have c10 := (nI_leI (a := t0) (b := k) (by omega) (by omega)).mp c10
        refine lv_iload hx hb dX9_hasThunk_53 (lv_at hl 4 rfl) ?_
        refine W.zret (v := (if hasB L s0 l0 f0 k = true then (1 : Int32) else 0)) hx hb hr (if01_narrow (Eq.refl (if hasB L s0 l0 f0 k = true then (1 : Int32) else 0))) (fun t ht hW => ⟨_, rfl, ?_, ht⟩) (fun _ h => nomatch h) dX9_hasThunk_55
        have : k = t0 := by omega
        rw [this]
      · skip
        have c10 := mt (nI_leI (a := t0) (b := k) (by omega) (by omega)).mpr c10
        refine lv_iload hx hb dX9_hasThunk_13 (lv_at hl 4 rfl) ?_
        refine lv_if_ne (tgt := 40) hx hb dX9_hasThunk_15 (by decide) (fun c15 => ?_) (fun c15 => ?_)
        · skip
          have c15 := if01_n (Eq.refl (if hasB L s0 l0 f0 k = true then (1 : Int32) else 0)) c15
          refine lv_iconst (v := 1) hx hb dX9_hasThunk_40 (by decide) ?_
          refine lv_goto (tgt := 45) hx hb dX9_hasThunk_41 (by decide) ?_
          refine lv_istore (lv' := [(5, .int 1), (0, .ref (ad 55)), (1, .int (nI s0)), (2, .int (nI l0)), (4, .int (nI t0)), (6, .int (nI k))]) hx hb dX9_hasThunk_45 hl (by decide) rfl (fun ls hl => ?_)
          have eH : (if hasB L s0 l0 f0 (k + 1) = true then (1 : Int32) else 0) = 1 := by first | (rw [if_pos (by rw [hasB]; rw [c15]; rfl)]; done) | (rw [if_pos (by rw [hasB, isT_iff.mpr ⟨c26, c37⟩]; simp [hk1])]; done) | (rw [if_neg (by rw [hasB]; intro h9; rw [Bool.or_eq_true, Bool.and_eq_true] at h9; rcases h9 with h9 | h9; exact c15 h9; first | exact c26 (isT_iff.mp h9.2).1 | exact c37 (isT_iff.mp h9.2).2)]; done)
          refine lv_iinc (v := (nI (k + 1))) (lv' := [(6, .int (nI (k + 1))), (5, .int 1), (0, .ref (ad 55)), (1, .int (nI s0)), (2, .int (nI l0)), (4, .int (nI t0))]) hx hb dX9_hasThunk_47 hl (k := 5) rfl (nI_1 _) (by decide) rfl (fun ls hl => ?_)
          refine lv_goto (tgt := 6) hx hb dX9_hasThunk_50 (by decide) ?_
          exact ih6 (k + 1) (by omega) (by omega) (by omega) ls (by rw [show (if hasB L s0 l0 f0 (k + 1) = true then (1 : Int32) else 0) = 1 from eH]; exact lv_sub hl [2, 3, 4, 5, 1, 0] rfl)
        · skip
          have c15 := if01_z (Eq.refl (if hasB L s0 l0 f0 k = true then (1 : Int32) else 0)) c15
          obtain ⟨hm1, hm2, hm3, hm4, hm5⟩ := hbd k (by omega)
          refine lv_aload_n hx hb dX9_hasThunk_18 rfl (lv_at hl 0 rfl) ?_
          refine va_get (D := D) (T := TX9) (N := 51) hx hb hts jnX9 hown hK hP 55 (wd_55 y ad cap I J) rfl 43 (by decide) (hts _ fl_X9_84) (fun _ h9 => h9) rfl dX9_hasThunk_19 ?_
          refine lv_iload hx hb dX9_hasThunk_22 (lv_at hl 5 rfl) ?_
          refine va_iald (D := D) hx hb hK hP 80 0 (wd_80 y ad cap I J) rfl (vp_in_nI (by omega) (by omega)) dX9_hasThunk_24 ?_
          rw [nI_clamp (n := k) (by omega)]
          refine lv_topi (fun v24 ev24 => ?_)
          obtain rfl : v24 = (nI ((thA L k).1)) := by
            rw [ev24]; exact (hMT _ (by omega)).1
          refine lv_iload_n hx hb dX9_hasThunk_25 rfl (lv_at hl 1 rfl) ?_
          refine lv_icmp_ne (tgt := 44) hx hb dX9_hasThunk_26 (by decide) (fun c26 => ?_) (fun c26 => ?_)
          · skip
            have c26 := mt (nI_eq (a := ((thA L k).1)) (b := s0) (by omega) (by omega)).mpr c26
            refine lv_iconst (v := 0) hx hb dX9_hasThunk_44 (by decide) ?_
            refine lv_istore (lv' := [(5, .int 0), (0, .ref (ad 55)), (1, .int (nI s0)), (2, .int (nI l0)), (4, .int (nI t0)), (6, .int (nI k))]) hx hb dX9_hasThunk_45 hl (by decide) rfl (fun ls hl => ?_)
            have eH : (if hasB L s0 l0 f0 (k + 1) = true then (1 : Int32) else 0) = 0 := by first | (rw [if_pos (by rw [hasB]; rw [c15]; rfl)]; done) | (rw [if_pos (by rw [hasB, isT_iff.mpr ⟨c26, c37⟩]; simp [hk1])]; done) | (rw [if_neg (by rw [hasB]; intro h9; rw [Bool.or_eq_true, Bool.and_eq_true] at h9; rcases h9 with h9 | h9; exact c15 h9; first | exact c26 (isT_iff.mp h9.2).1 | exact c37 (isT_iff.mp h9.2).2)]; done)
            refine lv_iinc (v := (nI (k + 1))) (lv' := [(6, .int (nI (k + 1))), (5, .int 0), (0, .ref (ad 55)), (1, .int (nI s0)), (2, .int (nI l0)), (4, .int (nI t0))]) hx hb dX9_hasThunk_47 hl (k := 5) rfl (nI_1 _) (by decide) rfl (fun ls hl => ?_)
            refine lv_goto (tgt := 6) hx hb dX9_hasThunk_50 (by decide) ?_
            exact ih6 (k + 1) (by omega) (by omega) (by omega) ls (by rw [show (if hasB L s0 l0 f0 (k + 1) = true then (1 : Int32) else 0) = 0 from eH]; exact lv_sub hl [2, 3, 4, 5, 1, 0] rfl)
          · skip
            have c26 := (nI_eq (a := ((thA L k).1)) (b := s0) (by omega) (by omega)).mp c26
            refine lv_aload_n hx hb dX9_hasThunk_29 rfl (lv_at hl 0 rfl) ?_
            refine va_get (D := D) (T := TX9) (N := 51) hx hb hts jnX9 hown hK hP 55 (wd_55 y ad cap I J) rfl 44 (by decide) (hts _ fl_X9_87) (fun _ h9 => h9) rfl dX9_hasThunk_30 ?_
            refine lv_iload hx hb dX9_hasThunk_33 (lv_at hl 5 rfl) ?_
            refine va_iald (D := D) hx hb hK hP 81 0 (wd_81 y ad cap I J) rfl (vp_in_nI (by omega) (by omega)) dX9_hasThunk_35 ?_
            rw [nI_clamp (n := k) (by omega)]
            refine lv_topi (fun v35 ev35 => ?_)
            obtain rfl : v35 = (nI ((thA L k).2.1)) := by
              rw [ev35]; exact (hMT _ (by omega)).2.1
            refine lv_iload_n hx hb dX9_hasThunk_36 rfl (lv_at hl 2 rfl) ?_
            refine lv_icmp_ne (tgt := 44) hx hb dX9_hasThunk_37 (by decide) (fun c37 => ?_) (fun c37 => ?_)
            · skip
              have c37 := mt (nI_eq (a := ((thA L k).2.1)) (b := l0) (by omega) (by omega)).mpr c37
              refine lv_iconst (v := 0) hx hb dX9_hasThunk_44 (by decide) ?_
              refine lv_istore (lv' := [(5, .int 0), (0, .ref (ad 55)), (1, .int (nI s0)), (2, .int (nI l0)), (4, .int (nI t0)), (6, .int (nI k))]) hx hb dX9_hasThunk_45 hl (by decide) rfl (fun ls hl => ?_)
              have eH : (if hasB L s0 l0 f0 (k + 1) = true then (1 : Int32) else 0) = 0 := by first | (rw [if_pos (by rw [hasB]; rw [c15]; rfl)]; done) | (rw [if_pos (by rw [hasB, isT_iff.mpr ⟨c26, c37⟩]; simp [hk1])]; done) | (rw [if_neg (by rw [hasB]; intro h9; rw [Bool.or_eq_true, Bool.and_eq_true] at h9; rcases h9 with h9 | h9; exact c15 h9; first | exact c26 (isT_iff.mp h9.2).1 | exact c37 (isT_iff.mp h9.2).2)]; done)
              refine lv_iinc (v := (nI (k + 1))) (lv' := [(6, .int (nI (k + 1))), (5, .int 0), (0, .ref (ad 55)), (1, .int (nI s0)), (2, .int (nI l0)), (4, .int (nI t0))]) hx hb dX9_hasThunk_47 hl (k := 5) rfl (nI_1 _) (by decide) rfl (fun ls hl => ?_)
              refine lv_goto (tgt := 6) hx hb dX9_hasThunk_50 (by decide) ?_
              exact ih6 (k + 1) (by omega) (by omega) (by omega) ls (by rw [show (if hasB L s0 l0 f0 (k + 1) = true then (1 : Int32) else 0) = 0 from eH]; exact lv_sub hl [2, 3, 4, 5, 1, 0] rfl)
            · skip
              have c37 := (nI_eq (a := ((thA L k).2.1)) (b := l0) (by omega) (by omega)).mp c37
              refine lv_iconst (v := 1) hx hb dX9_hasThunk_40 (by decide) ?_
              refine lv_goto (tgt := 45) hx hb dX9_hasThunk_41 (by decide) ?_
              refine lv_istore (lv' := [(5, .int 1), (0, .ref (ad 55)), (1, .int (nI s0)), (2, .int (nI l0)), (4, .int (nI t0)), (6, .int (nI k))]) hx hb dX9_hasThunk_45 hl (by decide) rfl (fun ls hl => ?_)
              have eH : (if hasB L s0 l0 f0 (k + 1) = true then (1 : Int32) else 0) = 1 := by first | (rw [if_pos (by rw [hasB]; rw [c15]; rfl)]; done) | (rw [if_pos (by rw [hasB, isT_iff.mpr ⟨c26, c37⟩]; simp [hk1])]; done) | (rw [if_neg (by rw [hasB]; intro h9; rw [Bool.or_eq_true, Bool.and_eq_true] at h9; rcases h9 with h9 | h9; exact c15 h9; first | exact c26 (isT_iff.mp h9.2).1 | exact c37 (isT_iff.mp h9.2).2)]; done)
              refine lv_iinc (v := (nI (k + 1))) (lv' := [(6, .int (nI (k + 1))), (5, .int 1), (0, .ref (ad 55)), (1, .int (nI s0)), (2, .int (nI l0)), (4, .int (nI t0))]) hx hb dX9_hasThunk_47 hl (k := 5) rfl (nI_1 _) (by decide) rfl (fun ls hl => ?_)
              refine lv_goto (tgt := 6) hx hb dX9_hasThunk_50 (by decide) ?_
              exact ih6 (k + 1) (by omega) (by omega) (by omega) ls (by rw [show (if hasB L s0 l0 f0 (k + 1) = true then (1 : Int32) else 0) = 1 from eH]; exact lv_sub hl [2, 3, 4, 5, 1, 0] rfl)
  exact loop6 (t0 + 1) f0 (by omega) (by omega) (by omega) ls (by rw [show (if hasB L s0 l0 f0 f0 = true then (1 : Int32) else 0) = 0 from by rw [if_neg (by rw [hasB_iff]; rintro ⟨t, h1, h2, h3⟩; omega)]]; exact lv_sub hl [2, 3, 4, 6, 1, 0] rfl)
