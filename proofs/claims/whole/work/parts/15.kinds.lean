theorem kin {f : Nat → Int32} {k0 bi : Nat} (hk : k0 < 8) (hf : f k0 = nI bi) (h1 : 1 ≤ bi) (h2 : bi ≤ 30) : ¬ nI k0 < 0 ∧ ¬ 8 ≤ nI k0 ∧ ¬ f (nI k0).toNatClampNeg = 0 := by
  refine ⟨nI_pos (by omega), ?_, ?_⟩
  · rw [show (8 : Int32) = nI 8 from rfl, nI_leI (by omega) (by omega)]
    omega
  · rw [nI_clamp (by omega), hf]
    exact nI_ne0 (by omega) (by omega)
set_option maxHeartbeats 4000000 in
set_option maxRecDepth 100000 in
theorem c_X2_reaches (l : Launch) (D : va_G) (y : Nat → ClassId) {ws : va_W} {f2 f3 : Nat → Int32} {q1 a1 : Nat} {q2 a2 : Nat} {q3 a3 : Nat} (h1 : ws[q1]? = some (a1, .inr (2, [.ref a2, .ref a3]))) (h2 : ws[q2]? = some (a2, .inl (y 0, 8, .inl f2))) (h3 : ws[q3]? = some (a3, .inl (y 0, 8, .inl f3))) {k0 sh bi a0 b0 : Nat} (hk : k0 < 8) (hsh : f2 k0 = nI sh) (hbi : f3 k0 = nI bi) (hs3 : sh ≤ 3) (hb1 : 1 ≤ bi) (hb30 : bi ≤ 30) (ha : a0 < 2 ^ 40) (hb0 : b0 < 2 ^ 40) : Met l yX2_reaches [.code yX2_reaches cX2_reaches 12 (some .boolean)] ({ frames := 1, cells := 0, slots := 0, locals := 21 }) (va_Pc [.ref a1, .int (nI k0), .long (lN a0), .long (lN b0)] (PR D y ws)) (vp_Si (fun r => r = if rch sh bi a0 b0 = true then 1 else 0)) 0 0 (fun _ => False) := by
  refine Met.ofW (cc := cX2_reaches) (maxL := 12) (ret := (some .boolean)) (by decide) rfl ?_
  intro p e s m args below meth c s₁ B hml hv
  obtain ⟨rfl, hP, hO⟩ := hv
  have hx := B.exec
  have hb := B.bytes
  have hr := B.returns
  have hown : s.vm.findClass RX2 = some m.cls := findClass_of_methodNamed B.named
  have hlocks := B.notSynchronized
  have hK := hO.1
  have hts : ∀ w ∈ lw_E, w.before ([.ref a1, .int (nI k0), .long (lN a0), .long (lN b0)] : List Value).toArray s = true := fun w h => hO.2 w h _
  clear B
  have hl := lv_entry ([.ref a1, .int (nI k0), .long (lN a0), .long (lN b0)]) (n := 12) (Nat.le_of_ble_eq_true rfl)
  rw [lg_entry_eq]
  generalize (lg_sl ([.ref a1, .int (nI k0), .long (lN a0), .long (lN b0)]) ++ List.replicate (12 - (lg_sl ([.ref a1, .int (nI k0), .long (lN a0), .long (lN b0)])).length) Slot.unset).toArray = ls at hl ⊢
  have hl : lv_has ls 12 [(0, .ref a1), (1, .int (nI k0)), (2, .long (lN a0)), (4, .long (lN b0))] := hl
  refine lv_aload_n hx hb dX2_reaches_0 rfl (lv_at hl 0 rfl) ?_
  refine lv_iload_n hx hb dX2_reaches_1 rfl (lv_at hl 1 rfl) ?_
  refine rk_i (run_v (As := [.int (nI k0)]) (rest := []) (b := a1) hx hb hml hown hO.2 (c_X2_has l D y h1 h3 (nI k0)) k_X2_has ml_X2_22 ⟨rfl, rfl⟩ ⟨Nat.le_of_ble_eq_true rfl, Nat.le_of_ble_eq_true rfl⟩ (pre_VR hO hP h1 rfl) rfl hl.1 rfl (Nat.le_of_ble_eq_true rfl) dX2_reaches_2 ⟨(Nat.zero_le _), (Nat.zero_le _)⟩) (fun r2 er2 => ?_)
  try dsimp only at er2
  refine lv_if_ne (tgt := 10) hx hb dX2_reaches_5 (by decide) (fun c5 => ?_) (fun c5 => ?_)
  · skip
    have c5 := if01_n er2 c5
    refine lv_lload hx hb dX2_reaches_10 (lv_at hl 3 rfl) ?_
    refine lv_lload_n hx hb dX2_reaches_12 rfl (lv_at hl 2 rfl) ?_
    refine lv_lsub hx hb dX2_reaches_13 ?_
    refine lv_topl (fun v13 ev13 => ?_)
    refine lv_lstore (lv' := [(6, .long v13), (0, .ref a1), (1, .int (nI k0)), (2, .long (lN a0)), (4, .long (lN b0))]) hx hb dX2_reaches_14 hl (by decide) rfl (fun ls hl => ?_)
    refine lv_lload hx hb dX2_reaches_16 (lv_at hl 0 rfl) ?_
    refine lv_aload_n hx hb dX2_reaches_18 rfl (lv_at hl 1 rfl) ?_
    refine va_get (D := D) (T := TX2) (N := 2) hx hb hts jnX2 hown hK hP q1 h1 rfl 0 (by decide) (hts _ fl_X2_9) (fun _ h9 => h9) rfl dX2_reaches_19 ?_
    refine lv_iload_n hx hb dX2_reaches_22 rfl (lv_at hl 2 rfl) ?_
    refine va_iald (D := D) hx hb hK hP q2 0 h2 rfl (vp_in_nI (by omega) (by omega)) dX2_reaches_23 ?_
    rw [nI_clamp (n := k0) (by omega)]
    refine lv_topi (fun v23 ev23 => ?_)
    obtain rfl : v23 = (nI sh) := by
      rw [ev23, hsh]
    refine lv_lshr hx hb dX2_reaches_24 rfl ?_
    refine lv_topl (fun v24 ev24 => ?_)
    refine lv_lstore (lv' := [(8, .long v24), (6, .long v13), (0, .ref a1), (1, .int (nI k0)), (2, .long (lN a0)), (4, .long (lN b0))]) hx hb dX2_reaches_25 hl (by decide) rfl (fun ls hl => ?_)
    refine lv_lconst (v := 1) hx hb dX2_reaches_27 (by decide) ?_
    refine lv_aload_n hx hb dX2_reaches_28 rfl (lv_at hl 2 rfl) ?_
    refine va_get (D := D) (T := TX2) (N := 2) hx hb hts jnX2 hown hK hP q1 h1 rfl 1 (by decide) (hts _ fl_X2_15) (fun _ h9 => h9) rfl dX2_reaches_29 ?_
    refine lv_iload_n hx hb dX2_reaches_32 rfl (lv_at hl 3 rfl) ?_
    refine va_iald (D := D) hx hb hK hP q3 0 h3 rfl (vp_in_nI (by omega) (by omega)) dX2_reaches_33 ?_
    rw [nI_clamp (n := k0) (by omega)]
    refine lv_topi (fun v33 ev33 => ?_)
    obtain rfl : v33 = (nI bi) := by
      rw [ev33, hbi]
    refine lv_iconst (v := 1) hx hb dX2_reaches_34 (by decide) ?_
    refine lv_isub hx hb dX2_reaches_35 ?_
    refine lv_topi (fun v35 ev35 => ?_)
    obtain rfl : v35 = (nI (bi - 1)) := by
      rw [ev35, show (1 : Int32) = nI 1 from rfl, pk_sub hb1]
    refine lv_lshl hx hb dX2_reaches_36 rfl ?_
    refine lv_topl (fun v36 ev36 => ?_)
    refine lv_lstore (lv' := [(10, .long v36), (8, .long v24), (6, .long v13), (0, .ref a1), (1, .int (nI k0)), (2, .long (lN a0)), (4, .long (lN b0))]) hx hb dX2_reaches_37 hl (by decide) rfl (fun ls hl => ?_)
    refine lv_lload hx hb dX2_reaches_39 (lv_at hl 1 rfl) ?_
    refine lv_aload_n hx hb dX2_reaches_41 rfl (lv_at hl 3 rfl) ?_
    refine va_get (D := D) (T := TX2) (N := 2) hx hb hts jnX2 hown hK hP q1 h1 rfl 0 (by decide) (hts _ fl_X2_9) (fun _ h9 => h9) rfl dX2_reaches_42 ?_
    refine lv_iload_n hx hb dX2_reaches_45 rfl (lv_at hl 4 rfl) ?_
    refine va_iald (D := D) hx hb hK hP q2 0 h2 rfl (vp_in_nI (by omega) (by omega)) dX2_reaches_46 ?_
    rw [nI_clamp (n := k0) (by omega)]
    refine lv_topi (fun v46 ev46 => ?_)
    obtain rfl : v46 = (nI sh) := by
      rw [ev46, hsh]
    refine lv_lshl hx hb dX2_reaches_47 rfl ?_
    refine lv_topl (fun v47 ev47 => ?_)
    refine lv_lload hx hb dX2_reaches_48 (lv_at hl 2 rfl) ?_
    refine W.lcmp hx hb dX2_reaches_50 ?_
    refine lv_if_ne (tgt := 75) hx hb dX2_reaches_51 (by decide) (fun c51 => ?_) (fun c51 => ?_)
    · skip
      have c51 := mt lc_eq.mpr c51
      refine lv_iconst (v := 0) hx hb dX2_reaches_75 (by decide) ?_
      refine W.zret (v := 0) hx hb hr (by decide) (fun t ht hW => ⟨_, rfl, ?_, ht⟩) (fun _ h => nomatch h) dX2_reaches_76
      first | rw [if_neg (fun h9 => absurd ((rch_class hs3 hb1 hb30 ha hb0 ev13 ev24 ev36 ev47).mpr h9).1 c51)] | (subst ev58; rw [if_pos ((rch_class hs3 hb1 hb30 ha hb0 ev13 ev24 ev36 ev47).mp ⟨c51, c60, c68⟩)]; done) | (subst ev58; rw [if_neg (fun h9 => ((rch_class hs3 hb1 hb30 ha hb0 ev13 ev24 ev36 ev47).mpr h9).2.2 c68)]; done) | (subst ev58; rw [if_neg (fun h9 => ((rch_class hs3 hb1 hb30 ha hb0 ev13 ev24 ev36 ev47).mpr h9).2.1 c60)]; done)
    · skip
      have c51 := lc_eq.mp c51
      refine lv_lload hx hb dX2_reaches_54 (lv_at hl 1 rfl) ?_
      refine lv_lload hx hb dX2_reaches_56 (lv_at hl 0 rfl) ?_
      refine lv_lneg hx hb dX2_reaches_58 ?_
      refine lv_topl (fun v58 ev58 => ?_)
      refine W.lcmp hx hb dX2_reaches_59 ?_
      refine lv_if_lt (tgt := 75) hx hb dX2_reaches_60 (by decide) (fun c60 => ?_) (fun c60 => ?_)
      · skip
        have c60 := lc_lt.mp c60
        refine lv_iconst (v := 0) hx hb dX2_reaches_75 (by decide) ?_
        refine W.zret (v := 0) hx hb hr (by decide) (fun t ht hW => ⟨_, rfl, ?_, ht⟩) (fun _ h => nomatch h) dX2_reaches_76
        first | rw [if_neg (fun h9 => absurd ((rch_class hs3 hb1 hb30 ha hb0 ev13 ev24 ev36 ev47).mpr h9).1 c51)] | (subst ev58; rw [if_pos ((rch_class hs3 hb1 hb30 ha hb0 ev13 ev24 ev36 ev47).mp ⟨c51, c60, c68⟩)]; done) | (subst ev58; rw [if_neg (fun h9 => ((rch_class hs3 hb1 hb30 ha hb0 ev13 ev24 ev36 ev47).mpr h9).2.2 c68)]; done) | (subst ev58; rw [if_neg (fun h9 => ((rch_class hs3 hb1 hb30 ha hb0 ev13 ev24 ev36 ev47).mpr h9).2.1 c60)]; done)
      · skip
        have c60 := mt lc_lt.mpr c60
        refine lv_lload hx hb dX2_reaches_63 (lv_at hl 1 rfl) ?_
        refine lv_lload hx hb dX2_reaches_65 (lv_at hl 0 rfl) ?_
        refine W.lcmp hx hb dX2_reaches_67 ?_
        refine lv_if_ge (tgt := 75) hx hb dX2_reaches_68 (by decide) (fun c68 => ?_) (fun c68 => ?_)
        · skip
          have c68 := lc_ge.mp c68
          refine lv_iconst (v := 0) hx hb dX2_reaches_75 (by decide) ?_
          refine W.zret (v := 0) hx hb hr (by decide) (fun t ht hW => ⟨_, rfl, ?_, ht⟩) (fun _ h => nomatch h) dX2_reaches_76
          first | rw [if_neg (fun h9 => absurd ((rch_class hs3 hb1 hb30 ha hb0 ev13 ev24 ev36 ev47).mpr h9).1 c51)] | (subst ev58; rw [if_pos ((rch_class hs3 hb1 hb30 ha hb0 ev13 ev24 ev36 ev47).mp ⟨c51, c60, c68⟩)]; done) | (subst ev58; rw [if_neg (fun h9 => ((rch_class hs3 hb1 hb30 ha hb0 ev13 ev24 ev36 ev47).mpr h9).2.2 c68)]; done) | (subst ev58; rw [if_neg (fun h9 => ((rch_class hs3 hb1 hb30 ha hb0 ev13 ev24 ev36 ev47).mpr h9).2.1 c60)]; done)
        · skip
          have c68 := mt lc_ge.mpr c68
          refine lv_iconst (v := 1) hx hb dX2_reaches_71 (by decide) ?_
          refine lv_goto (tgt := 76) hx hb dX2_reaches_72 (by decide) ?_
          refine W.zret (v := 1) hx hb hr (by decide) (fun t ht hW => ⟨_, rfl, ?_, ht⟩) (fun _ h => nomatch h) dX2_reaches_76
          first | rw [if_neg (fun h9 => absurd ((rch_class hs3 hb1 hb30 ha hb0 ev13 ev24 ev36 ev47).mpr h9).1 c51)] | (subst ev58; rw [if_pos ((rch_class hs3 hb1 hb30 ha hb0 ev13 ev24 ev36 ev47).mp ⟨c51, c60, c68⟩)]; done) | (subst ev58; rw [if_neg (fun h9 => ((rch_class hs3 hb1 hb30 ha hb0 ev13 ev24 ev36 ev47).mpr h9).2.2 c68)]; done) | (subst ev58; rw [if_neg (fun h9 => ((rch_class hs3 hb1 hb30 ha hb0 ev13 ev24 ev36 ev47).mpr h9).2.1 c60)]; done)
  · skip
    have c5 := if01_z er2 c5
    exact absurd (kin hk hbi hb1 hb30) c5
set_option maxHeartbeats 4000000 in
set_option maxRecDepth 100000 in
theorem c_X2_encode (l : Launch) (D : va_G) (y : Nat → ClassId) {ws : va_W} {f2 f3 : Nat → Int32} {q1 a1 : Nat} {q2 a2 : Nat} {q3 a3 : Nat} (h1 : ws[q1]? = some (a1, .inr (2, [.ref a2, .ref a3]))) (h2 : ws[q2]? = some (a2, .inl (y 0, 8, .inl f2))) (h3 : ws[q3]? = some (a3, .inl (y 0, 8, .inl f3))) {k0 sh bi a0 b0 : Nat} (hk : k0 < 8) (hsh : f2 k0 = nI sh) (hbi : f3 k0 = nI bi) (hs3 : sh ≤ 3) (hb1 : 1 ≤ bi) (hb30 : bi ≤ 30) (ha : a0 < 2 ^ 40) (hb0 : b0 < 2 ^ 40) : Met l yX2_encode [.code yX2_encode cX2_encode 8 (some .int)] ({ frames := 2, cells := 0, slots := 0, locals := 52 }) (va_Pc [.ref a1, .int (nI k0), .long (lN a0), .long (lN b0)] (PR D y ws)) (vp_Si (fun r => r = if rch sh bi a0 b0 = true then nI (cde sh bi a0 b0) else -1)) 0 0 (fun _ => False) := by
  refine Met.ofW (cc := cX2_encode) (maxL := 8) (ret := (some .int)) (by decide) rfl ?_
  intro p e s m args below meth c s₁ B hml hv
  obtain ⟨rfl, hP, hO⟩ := hv
  have hx := B.exec
  have hb := B.bytes
  have hr := B.returns
  have hown : s.vm.findClass RX2 = some m.cls := findClass_of_methodNamed B.named
  have hlocks := B.notSynchronized
  have hK := hO.1
  have hts : ∀ w ∈ lw_E, w.before ([.ref a1, .int (nI k0), .long (lN a0), .long (lN b0)] : List Value).toArray s = true := fun w h => hO.2 w h _
  clear B
  have hl := lv_entry ([.ref a1, .int (nI k0), .long (lN a0), .long (lN b0)]) (n := 8) (Nat.le_of_ble_eq_true rfl)
  rw [lg_entry_eq]
  generalize (lg_sl ([.ref a1, .int (nI k0), .long (lN a0), .long (lN b0)]) ++ List.replicate (8 - (lg_sl ([.ref a1, .int (nI k0), .long (lN a0), .long (lN b0)])).length) Slot.unset).toArray = ls at hl ⊢
  have hl : lv_has ls 8 [(0, .ref a1), (1, .int (nI k0)), (2, .long (lN a0)), (4, .long (lN b0))] := hl
  refine lv_aload_n hx hb dX2_encode_0 rfl (lv_at hl 0 rfl) ?_
  refine lv_iload_n hx hb dX2_encode_1 rfl (lv_at hl 1 rfl) ?_
  refine lv_lload_n hx hb dX2_encode_2 rfl (lv_at hl 2 rfl) ?_
  refine lv_lload hx hb dX2_encode_3 (lv_at hl 3 rfl) ?_
  refine rk_i (run_v (As := [.int (nI k0), .long (lN a0), .long (lN b0)]) (rest := []) (b := a1) hx hb hml hown hO.2 (c_X2_reaches l D y h1 h2 h3 hk hsh hbi hs3 hb1 hb30 ha hb0) k_X2_reaches ml_X2_26 ⟨rfl, rfl⟩ ⟨Nat.le_of_ble_eq_true rfl, Nat.le_of_ble_eq_true rfl⟩ (pre_VR hO hP h1 rfl) rfl hl.1 rfl (Nat.le_of_ble_eq_true rfl) dX2_encode_5 ⟨(Nat.zero_le _), (Nat.zero_le _)⟩) (fun r5 er5 => ?_)
  try dsimp only at er5
  refine lv_if_ne (tgt := 13) hx hb dX2_encode_8 (by decide) (fun c8 => ?_) (fun c8 => ?_)
  · skip
    have c8 := if01_n er5 c8
    refine lv_lload hx hb dX2_encode_13 (lv_at hl 3 rfl) ?_
    refine lv_lload_n hx hb dX2_encode_15 rfl (lv_at hl 2 rfl) ?_
    refine lv_lsub hx hb dX2_encode_16 ?_
    refine lv_topl (fun v16 ev16 => ?_)
    refine lv_aload_n hx hb dX2_encode_17 rfl (lv_at hl 0 rfl) ?_
    refine va_get (D := D) (T := TX2) (N := 2) hx hb hts jnX2 hown hK hP q1 h1 rfl 0 (by decide) (hts _ fl_X2_9) (fun _ h9 => h9) rfl dX2_encode_18 ?_
    refine lv_iload_n hx hb dX2_encode_21 rfl (lv_at hl 1 rfl) ?_
    refine va_iald (D := D) hx hb hK hP q2 0 h2 rfl (vp_in_nI (by omega) (by omega)) dX2_encode_22 ?_
    rw [nI_clamp (n := k0) (by omega)]
    refine lv_topi (fun v22 ev22 => ?_)
    obtain rfl : v22 = (nI sh) := by
      rw [ev22, hsh]
    refine lv_lshr hx hb dX2_encode_23 rfl ?_
    refine lv_topl (fun v23 ev23 => ?_)
    refine lv_lstore (lv' := [(6, .long v23), (0, .ref a1), (1, .int (nI k0)), (2, .long (lN a0)), (4, .long (lN b0))]) hx hb dX2_encode_24 hl (by decide) rfl (fun ls hl => ?_)
    refine lv_lload hx hb dX2_encode_26 (lv_at hl 0 rfl) ?_
    refine lv_lconst (v := 1) hx hb dX2_encode_28 (by decide) ?_
    refine lv_aload_n hx hb dX2_encode_29 rfl (lv_at hl 1 rfl) ?_
    refine va_get (D := D) (T := TX2) (N := 2) hx hb hts jnX2 hown hK hP q1 h1 rfl 1 (by decide) (hts _ fl_X2_15) (fun _ h9 => h9) rfl dX2_encode_30 ?_
    refine lv_iload_n hx hb dX2_encode_33 rfl (lv_at hl 2 rfl) ?_
    refine va_iald (D := D) hx hb hK hP q3 0 h3 rfl (vp_in_nI (by omega) (by omega)) dX2_encode_34 ?_
    rw [nI_clamp (n := k0) (by omega)]
    refine lv_topi (fun v34 ev34 => ?_)
    obtain rfl : v34 = (nI bi) := by
      rw [ev34, hbi]
    refine lv_lshl hx hb dX2_encode_35 rfl ?_
    refine lv_topl (fun v35 ev35 => ?_)
    refine lv_lconst (v := 1) hx hb dX2_encode_36 (by decide) ?_
    refine lv_lsub hx hb dX2_encode_37 ?_
    refine lv_topl (fun v37 ev37 => ?_)
    refine lv_land hx hb dX2_encode_38 ?_
    refine lv_topl (fun v38 ev38 => ?_)
    refine lv_l2i hx hb dX2_encode_39 rfl ?_
    refine lv_topi (fun v39 ev39 => ?_)
    refine W.iret (v := v39) hx hb hr (fun t ht hW => ⟨_, rfl, ?_, ht⟩) (fun _ h => nomatch h) dX2_encode_40
    rw [if_pos c8]
    exact enc_class hs3 hb30 ha hb0 ev16 ev23 ev35 ev37 ev38 ev39
  · skip
    have c8 := if01_z er5 c8
    refine lv_iconst (v := (-1)) hx hb dX2_encode_11 (by decide) ?_
    refine W.iret (v := (-1)) hx hb hr (fun t ht hW => ⟨_, rfl, ?_, ht⟩) (fun _ h => nomatch h) dX2_encode_12
    rw [if_neg c8]
set_option maxHeartbeats 4000000 in
set_option maxRecDepth 100000 in
theorem c_X2_follow (l : Launch) (D : va_G) (y : Nat → ClassId) {ws : va_W} {f2 f3 : Nat → Int32} {q1 a1 : Nat} {q2 a2 : Nat} {q3 a3 : Nat} (h1 : ws[q1]? = some (a1, .inr (2, [.ref a2, .ref a3]))) (h2 : ws[q2]? = some (a2, .inl (y 0, 8, .inl f2))) (h3 : ws[q3]? = some (a3, .inl (y 0, 8, .inl f3))) {k0 sh bi a0 b0 : Nat} (hk : k0 < 8) (hsh : f2 k0 = nI sh) (hbi : f3 k0 = nI bi) (hs3 : sh ≤ 3) (hb1 : 1 ≤ bi) (hb30 : bi ≤ 30) (ha : a0 < 2 ^ 40) (hb0 : b0 < 2 ^ 40) (hrc : rch sh bi a0 b0 = true) : Met l yX2_follow [.code yX2_follow cX2_follow 9 (some .long)] ({ frames := 1, cells := 0, slots := 0, locals := 21 }) (va_Pc [.ref a1, .int (nI k0), .long (lN a0), .int (nI (cde sh bi a0 b0))] (PR D y ws)) (vp_Sl (fun r => r = lN b0)) 0 0 (fun _ => False) := by
  refine Met.ofW (cc := cX2_follow) (maxL := 9) (ret := (some .long)) (by decide) rfl ?_
  intro p e s m args below meth c s₁ B hml hv
  obtain ⟨rfl, hP, hO⟩ := hv
  have hx := B.exec
  have hb := B.bytes
  have hr := B.returns
  have hown : s.vm.findClass RX2 = some m.cls := findClass_of_methodNamed B.named
  have hlocks := B.notSynchronized
  have hK := hO.1
  have hts : ∀ w ∈ lw_E, w.before ([.ref a1, .int (nI k0), .long (lN a0), .int (nI (cde sh bi a0 b0))] : List Value).toArray s = true := fun w h => hO.2 w h _
  clear B
  have hl := lv_entry ([.ref a1, .int (nI k0), .long (lN a0), .int (nI (cde sh bi a0 b0))]) (n := 9) (Nat.le_of_ble_eq_true rfl)
  rw [lg_entry_eq]
  generalize (lg_sl ([.ref a1, .int (nI k0), .long (lN a0), .int (nI (cde sh bi a0 b0))]) ++ List.replicate (9 - (lg_sl ([.ref a1, .int (nI k0), .long (lN a0), .int (nI (cde sh bi a0 b0))])).length) Slot.unset).toArray = ls at hl ⊢
  have hl : lv_has ls 9 [(0, .ref a1), (1, .int (nI k0)), (2, .long (lN a0)), (4, .int (nI (cde sh bi a0 b0)))] := hl
  refine lv_aload_n hx hb dX2_follow_0 rfl (lv_at hl 0 rfl) ?_
  refine lv_iload_n hx hb dX2_follow_1 rfl (lv_at hl 1 rfl) ?_
  refine rk_i (run_v (As := [.int (nI k0)]) (rest := []) (b := a1) hx hb hml hown hO.2 (c_X2_has l D y h1 h3 (nI k0)) k_X2_has ml_X2_22 ⟨rfl, rfl⟩ ⟨Nat.le_of_ble_eq_true rfl, Nat.le_of_ble_eq_true rfl⟩ (pre_VR hO hP h1 rfl) rfl hl.1 rfl (Nat.le_of_ble_eq_true rfl) dX2_follow_2 ⟨(Nat.zero_le _), (Nat.zero_le _)⟩) (fun r2 er2 => ?_)
  try dsimp only at er2
  refine lv_if_ne (tgt := 12) hx hb dX2_follow_5 (by decide) (fun c5 => ?_) (fun c5 => ?_)
  · skip
    have c5 := if01_n er2 c5
    have hcl := cde_lt (sh := sh) (a := a0) (b := b0) hb30
    refine lv_lconst (v := 1) hx hb dX2_follow_12 (by decide) ?_
    refine lv_aload_n hx hb dX2_follow_13 rfl (lv_at hl 0 rfl) ?_
    refine va_get (D := D) (T := TX2) (N := 2) hx hb hts jnX2 hown hK hP q1 h1 rfl 1 (by decide) (hts _ fl_X2_15) (fun _ h9 => h9) rfl dX2_follow_14 ?_
    refine lv_iload_n hx hb dX2_follow_17 rfl (lv_at hl 1 rfl) ?_
    refine va_iald (D := D) hx hb hK hP q3 0 h3 rfl (vp_in_nI (by omega) (by omega)) dX2_follow_18 ?_
    rw [nI_clamp (n := k0) (by omega)]
    refine lv_topi (fun v18 ev18 => ?_)
    obtain rfl : v18 = (nI bi) := by
      rw [ev18, hbi]
    refine lv_iconst (v := 1) hx hb dX2_follow_19 (by decide) ?_
    refine lv_isub hx hb dX2_follow_20 ?_
    refine lv_topi (fun v20 ev20 => ?_)
    obtain rfl : v20 = (nI (bi - 1)) := by
      rw [ev20, show (1 : Int32) = nI 1 from rfl, pk_sub hb1]
    refine lv_lshl hx hb dX2_follow_21 rfl ?_
    refine lv_topl (fun v21 ev21 => ?_)
    refine lv_lstore (lv' := [(5, .long v21), (0, .ref a1), (1, .int (nI k0)), (2, .long (lN a0)), (4, .int (nI (cde sh bi a0 b0)))]) hx hb dX2_follow_22 hl (by decide) rfl (fun ls hl => ?_)
    refine lv_iload hx hb dX2_follow_24 (lv_at hl 4 rfl) ?_
    refine lv_i2l (v := lN (cde sh bi a0 b0)) hx hb dX2_follow_26 (nI_l (by omega)) ?_
    refine lv_lload hx hb dX2_follow_27 (lv_at hl 0 rfl) ?_
    refine W.lcmp hx hb dX2_follow_29 ?_
    refine lv_if_lt (tgt := 46) hx hb dX2_follow_30 (by decide) (fun c30 => ?_) (fun c30 => ?_)
    · skip
      have c30 := lc_lt.mp c30
      refine lv_iload hx hb dX2_follow_46 (lv_at hl 4 rfl) ?_
      refine lv_i2l (v := lN (cde sh bi a0 b0)) hx hb dX2_follow_48 (nI_l (by omega)) ?_
      refine lv_lstore (lv' := [(7, .long (lN (cde sh bi a0 b0))), (5, .long v21), (0, .ref a1), (1, .int (nI k0)), (2, .long (lN a0)), (4, .int (nI (cde sh bi a0 b0)))]) hx hb dX2_follow_49 hl (by decide) rfl (fun ls hl => ?_)
      refine lv_lload_n hx hb dX2_follow_51 rfl (lv_at hl 4 rfl) ?_
      refine lv_lload hx hb dX2_follow_52 (lv_at hl 0 rfl) ?_
      refine lv_aload_n hx hb dX2_follow_54 rfl (lv_at hl 2 rfl) ?_
      refine va_get (D := D) (T := TX2) (N := 2) hx hb hts jnX2 hown hK hP q1 h1 rfl 0 (by decide) (hts _ fl_X2_9) (fun _ h9 => h9) rfl dX2_follow_55 ?_
      refine lv_iload_n hx hb dX2_follow_58 rfl (lv_at hl 3 rfl) ?_
      refine va_iald (D := D) hx hb hK hP q2 0 h2 rfl (vp_in_nI (by omega) (by omega)) dX2_follow_59 ?_
      rw [nI_clamp (n := k0) (by omega)]
      refine lv_topi (fun v59 ev59 => ?_)
      obtain rfl : v59 = (nI sh) := by
        rw [ev59, hsh]
      refine lv_lshl hx hb dX2_follow_60 rfl ?_
      refine lv_topl (fun v60 ev60 => ?_)
      refine lv_ladd hx hb dX2_follow_61 ?_
      refine lv_topl (fun v61 ev61 => ?_)
      refine W.lret (v := v61) hx hb hr (fun t ht hW => ⟨_, rfl, ?_, ht⟩) (fun _ h => nomatch h) dX2_follow_62
      first | exact fol_class hs3 hb1 hb30 ha hb0 hrc ev21 (Or.inl ⟨c30, rfl⟩) ev60 ev61 | exact fol_class hs3 hb1 hb30 ha hb0 hrc ev21 (Or.inr ⟨c30, by rw [ev42, ev41]⟩) ev60 ev61
    · skip
      have c30 := mt lc_lt.mpr c30
      refine lv_iload hx hb dX2_follow_33 (lv_at hl 4 rfl) ?_
      refine lv_i2l (v := lN (cde sh bi a0 b0)) hx hb dX2_follow_35 (nI_l (by omega)) ?_
      refine lv_ldc2 (v := 2) hx hb hown (hts _ kc_X2_32) dX2_follow_36 ?_
      refine lv_lload hx hb dX2_follow_39 (lv_at hl 0 rfl) ?_
      refine lv_lmul hx hb dX2_follow_41 ?_
      refine lv_topl (fun v41 ev41 => ?_)
      refine lv_lsub hx hb dX2_follow_42 ?_
      refine lv_topl (fun v42 ev42 => ?_)
      refine lv_goto (tgt := 49) hx hb dX2_follow_43 (by decide) ?_
      refine lv_lstore (lv' := [(7, .long v42), (5, .long v21), (0, .ref a1), (1, .int (nI k0)), (2, .long (lN a0)), (4, .int (nI (cde sh bi a0 b0)))]) hx hb dX2_follow_49 hl (by decide) rfl (fun ls hl => ?_)
      refine lv_lload_n hx hb dX2_follow_51 rfl (lv_at hl 4 rfl) ?_
      refine lv_lload hx hb dX2_follow_52 (lv_at hl 0 rfl) ?_
      refine lv_aload_n hx hb dX2_follow_54 rfl (lv_at hl 2 rfl) ?_
      refine va_get (D := D) (T := TX2) (N := 2) hx hb hts jnX2 hown hK hP q1 h1 rfl 0 (by decide) (hts _ fl_X2_9) (fun _ h9 => h9) rfl dX2_follow_55 ?_
      refine lv_iload_n hx hb dX2_follow_58 rfl (lv_at hl 3 rfl) ?_
      refine va_iald (D := D) hx hb hK hP q2 0 h2 rfl (vp_in_nI (by omega) (by omega)) dX2_follow_59 ?_
      rw [nI_clamp (n := k0) (by omega)]
      refine lv_topi (fun v59 ev59 => ?_)
      obtain rfl : v59 = (nI sh) := by
        rw [ev59, hsh]
      refine lv_lshl hx hb dX2_follow_60 rfl ?_
      refine lv_topl (fun v60 ev60 => ?_)
      refine lv_ladd hx hb dX2_follow_61 ?_
      refine lv_topl (fun v61 ev61 => ?_)
      refine W.lret (v := v61) hx hb hr (fun t ht hW => ⟨_, rfl, ?_, ht⟩) (fun _ h => nomatch h) dX2_follow_62
      first | exact fol_class hs3 hb1 hb30 ha hb0 hrc ev21 (Or.inl ⟨c30, rfl⟩) ev60 ev61 | exact fol_class hs3 hb1 hb30 ha hb0 hrc ev21 (Or.inr ⟨c30, by rw [ev42, ev41]⟩) ev60 ev61
  · skip
    have c5 := if01_z er2 c5
    exact absurd (kin hk hbi hb1 hb30) c5
