theorem wy_t {T : Nat → Nat → Nat} {M : List Th} {b : Nat} (h2 : ¬ wyB T M b = 2) (h0 : ¬ wyB T M b = 0) : ∃ t, bst T M b (T 0 0) = some t ∧ ¬ dirB T (cnt M) b = true := by
  unfold wyB at h2 h0
  split at h0
  · exact absurd rfl h0
  · rename_i hd
    rw [if_neg hd] at h2
    cases hb : bst T M b (T 0 0) with
    | none => rw [hb] at h2; exact absurd rfl h2
    | some t => exact ⟨t, rfl, hd⟩
theorem wy_d {T : Nat → Nat → Nat} {M : List Th} {b : Nat} (h : wyB T M b = 0) : dirB T (cnt M) b = true := by
  unfold wyB at h
  split at h
  · assumption
  · split at h <;> omega
theorem wy_lt (T : Nat → Nat → Nat) (M : List Th) (b : Nat) : wyB T M b < 2 ^ 31 := by
  unfold wyB
  split
  · omega
  · split <;> omega
theorem rch_mod {sh bi a b : Nat} (h : rch sh bi a b = true) : ((b : Int) - a) % 2 ^ sh = 0 := by
  unfold rch at h
  exact (decide_eq_true_iff.mp h).1
theorem ix_z {n : Nat} (h : n = 0) (p : Int32) : ix n p = none := by
  subst h
  exact ix_no (fun h9 => h9.2 (Int32.not_lt.mp h9.1))
theorem e_un {TL : Nat → Nat → Nat} (hz : ∀ r j, TL r j = 0) (p q : Int32) : qEnc TL [] p q = -1 := by
  unfold qEnc
  rw [ix_z (hz 0 2), ix_z (rfl : ([] : List Th).length = 0)]
  simp [oI]
theorem at_un {TL : Nat → Nat → Nat} {M : List Th} (h : TL 0 0 = 0) (x : Int64) : atB TL M x = -1 := by
  unfold atB
  rw [h]
  have hs : sAt TL (cnt M) 0 = TL 0 4 := rfl
  rw [hs]
  by_cases h9 : x < lN (TL 0 4)
  · rw [if_pos (Or.inl h9)]
  · rw [if_pos (Or.inr h9)]
set_option maxHeartbeats 4000000 in
set_option maxRecDepth 100000 in
theorem c_X9_way (l : Launch) (D : va_G) (y : Nat → ClassId) (ad : Nat → Nat) (cap : Nat → Nat) (I : Nat → Nat → Int32) (J : Nat → Nat → Int64) {T : Nat → Nat → Nat} (hK9 : ∀ k, k < 8 → I 77 k = nI (stpN T k) ∧ I 78 k = nI (T 11 k)) (hW : WF T) {k0 a0 b0 : Nat} (hk : k0 < 8) (hb1 : 1 ≤ T 11 k0) (ha : a0 < 2 ^ 40) (hb0 : b0 < 2 ^ 40) (hrc : rch (T 10 k0) (T 11 k0) a0 b0 = true) : Met l yX9_way [.code yX9_way cX9_way 6 (some .int)] ({ frames := 0, cells := 0, slots := 0, locals := 0 }) (va_Pc [.ref (ad 55), .int (nI k0), .long (lN a0), .long (lN b0)] (PR D y (Wd y ad cap I J))) (vp_Si (fun r => r = nI (cde (T 10 k0) (T 11 k0) a0 b0))) 0 0 (fun _ => False) := by
  refine Met.ofW (cc := cX9_way) (maxL := 6) (ret := (some .int)) (by decide) rfl ?_
  intro p e s m args below meth c s₁ B hml hv
  obtain ⟨rfl, hP, hO⟩ := hv
  have hx := B.exec
  have hb := B.bytes
  have hr := B.returns
  have hown : s.vm.findClass RX9 = some m.cls := findClass_of_methodNamed B.named
  have hlocks := B.notSynchronized
  have hK := hO.1
  have hts : ∀ w ∈ lw_E, w.before ([.ref (ad 55), .int (nI k0), .long (lN a0), .long (lN b0)] : List Value).toArray s = true := fun w h => hO.2 w h _
  clear B
  have hl := lv_entry ([.ref (ad 55), .int (nI k0), .long (lN a0), .long (lN b0)]) (n := 6) (Nat.le_of_ble_eq_true rfl)
  rw [lg_entry_eq]
  generalize (lg_sl ([.ref (ad 55), .int (nI k0), .long (lN a0), .long (lN b0)]) ++ List.replicate (6 - (lg_sl ([.ref (ad 55), .int (nI k0), .long (lN a0), .long (lN b0)])).length) Slot.unset).toArray = ls at hl ⊢
  have hl : lv_has ls 6 [(0, .ref (ad 55)), (1, .int (nI k0)), (2, .long (lN a0)), (4, .long (lN b0))] := hl
  obtain ⟨wk1, wk2⟩ := hW.2.2.2.2.1 k0 hk
  have hpw : 2 ^ T 10 k0 ≤ 2 ^ 3 := Nat.pow_le_pow_right (by omega) wk1
  clear hpw
  have hpw : 2 ^ T 10 k0 ≤ 2 ^ 3 := Nat.pow_le_pow_right (by omega) wk1
  refine lv_lload hx hb dX9_way_0 (lv_at hl 3 rfl) ?_
  refine lv_lload_n hx hb dX9_way_2 rfl (lv_at hl 2 rfl) ?_
  refine lv_lsub hx hb dX9_way_3 ?_
  refine lv_topl (fun v3 ev3 => ?_)
  refine lv_aload_n hx hb dX9_way_4 rfl (lv_at hl 0 rfl) ?_
  refine va_get (D := D) (T := TX9) (N := 51) hx hb hts jnX9 hown hK hP 55 (wd_55 y ad cap I J) rfl 38 (by decide) (hts _ fl_X9_75) (fun _ h9 => h9) rfl dX9_way_5 ?_
  refine lv_iload_n hx hb dX9_way_8 rfl (lv_at hl 1 rfl) ?_
  refine va_iald (D := D) hx hb hK hP 77 0 (wd_77 y ad cap I J) rfl (vp_in_nI (by omega) (by omega)) dX9_way_9 ?_
  rw [nI_clamp (n := k0) (by omega)]
  refine lv_topi (fun v9 ev9 => ?_)
  obtain rfl : v9 = (nI (2 ^ T 10 k0)) := by
    rw [ev9, (hK9 k0 hk).1, stp_told hb1]
  refine lv_i2l (v := lN (2 ^ T 10 k0)) hx hb dX9_way_10 (nI_l (by omega)) ?_
  refine lv_ldiv hx hb dX9_way_11 (lN_pow_ne wk1) ?_
  refine lv_topl (fun v11 ev11 => ?_)
  refine lv_lconst (v := 1) hx hb dX9_way_12 (by decide) ?_
  refine lv_aload_n hx hb dX9_way_13 rfl (lv_at hl 0 rfl) ?_
  refine va_get (D := D) (T := TX9) (N := 51) hx hb hts jnX9 hown hK hP 55 (wd_55 y ad cap I J) rfl 39 (by decide) (hts _ fl_X9_78) (fun _ h9 => h9) rfl dX9_way_14 ?_
  refine lv_iload_n hx hb dX9_way_17 rfl (lv_at hl 1 rfl) ?_
  refine va_iald (D := D) hx hb hK hP 78 0 (wd_78 y ad cap I J) rfl (vp_in_nI (by omega) (by omega)) dX9_way_18 ?_
  rw [nI_clamp (n := k0) (by omega)]
  refine lv_topi (fun v18 ev18 => ?_)
  obtain rfl : v18 = (nI (T 11 k0)) := by
    rw [ev18, (hK9 k0 hk).2]
  refine lv_lshl hx hb dX9_way_19 rfl ?_
  refine lv_topl (fun v19 ev19 => ?_)
  refine lv_lconst (v := 1) hx hb dX9_way_20 (by decide) ?_
  refine lv_lsub hx hb dX9_way_21 ?_
  refine lv_topl (fun v21 ev21 => ?_)
  refine lv_land hx hb dX9_way_22 ?_
  refine lv_topl (fun v22 ev22 => ?_)
  refine lv_l2i hx hb dX9_way_23 rfl ?_
  refine lv_topi (fun v23 ev23 => ?_)
  refine W.iret (v := v23) hx hb hr (fun t ht hW => ⟨_, rfl, ?_, ht⟩) (fun _ h => nomatch h) dX9_way_24
  exact way_model wk1 wk2 ha hb0 (rch_mod hrc) ev3 rfl ev11 ev19 ev21 ev22 ev23
set_option maxHeartbeats 4000000 in
set_option maxRecDepth 100000 in
theorem c_X9_goes (l : Launch) (D : va_G) (y : Nat → ClassId) (ad : Nat → Nat) (cap : Nat → Nat) (I : Nat → Nat → Int32) (J : Nat → Nat → Int64) {T : Nat → Nat → Nat} (hK9 : ∀ k, k < 8 → I 77 k = nI (stpN T k) ∧ I 78 k = nI (T 11 k)) (hW : WF T) {k0 a0 b0 : Nat} (hk : k0 < 8) (hb1 : 1 ≤ T 11 k0) (ha : a0 < 2 ^ 40) (hb0 : b0 < 2 ^ 40) (hrc : rch (T 10 k0) (T 11 k0) a0 b0 = true) : Met l yX9_goes [.code yX9_goes cX9_goes 7 (some .long)] ({ frames := 0, cells := 0, slots := 0, locals := 0 }) (va_Pc [.ref (ad 55), .int (nI k0), .long (lN a0), .int (nI (cde (T 10 k0) (T 11 k0) a0 b0))] (PR D y (Wd y ad cap I J))) (vp_Sl (fun r => r = lN b0)) 0 0 (fun _ => False) := by
  refine Met.ofW (cc := cX9_goes) (maxL := 7) (ret := (some .long)) (by decide) rfl ?_
  intro p e s m args below meth c s₁ B hml hv
  obtain ⟨rfl, hP, hO⟩ := hv
  have hx := B.exec
  have hb := B.bytes
  have hr := B.returns
  have hown : s.vm.findClass RX9 = some m.cls := findClass_of_methodNamed B.named
  have hlocks := B.notSynchronized
  have hK := hO.1
  have hts : ∀ w ∈ lw_E, w.before ([.ref (ad 55), .int (nI k0), .long (lN a0), .int (nI (cde (T 10 k0) (T 11 k0) a0 b0))] : List Value).toArray s = true := fun w h => hO.2 w h _
  clear B
  have hl := lv_entry ([.ref (ad 55), .int (nI k0), .long (lN a0), .int (nI (cde (T 10 k0) (T 11 k0) a0 b0))]) (n := 7) (Nat.le_of_ble_eq_true rfl)
  rw [lg_entry_eq]
  generalize (lg_sl ([.ref (ad 55), .int (nI k0), .long (lN a0), .int (nI (cde (T 10 k0) (T 11 k0) a0 b0))]) ++ List.replicate (7 - (lg_sl ([.ref (ad 55), .int (nI k0), .long (lN a0), .int (nI (cde (T 10 k0) (T 11 k0) a0 b0))])).length) Slot.unset).toArray = ls at hl ⊢
  have hl : lv_has ls 7 [(0, .ref (ad 55)), (1, .int (nI k0)), (2, .long (lN a0)), (4, .int (nI (cde (T 10 k0) (T 11 k0) a0 b0)))] := hl
  obtain ⟨wk1, wk2⟩ := hW.2.2.2.2.1 k0 hk
  have hpw : 2 ^ T 10 k0 ≤ 2 ^ 3 := Nat.pow_le_pow_right (by omega) wk1
  have hcl := cde_lt (sh := T 10 k0) (a := a0) (b := b0) wk2
  refine lv_iload hx hb dX9_goes_0 (lv_at hl 3 rfl) ?_
  refine lv_i2l (v := lN (cde (T 10 k0) (T 11 k0) a0 b0)) hx hb dX9_goes_2 (nI_l (by omega)) ?_
  refine lv_lstore (lv' := [(5, .long (lN (cde (T 10 k0) (T 11 k0) a0 b0))), (0, .ref (ad 55)), (1, .int (nI k0)), (2, .long (lN a0)), (4, .int (nI (cde (T 10 k0) (T 11 k0) a0 b0)))]) hx hb dX9_goes_3 hl (by decide) rfl (fun ls hl => ?_)
  refine lv_lload hx hb dX9_goes_5 (lv_at hl 0 rfl) ?_
  refine lv_aload_n hx hb dX9_goes_7 rfl (lv_at hl 1 rfl) ?_
  refine va_get (D := D) (T := TX9) (N := 51) hx hb hts jnX9 hown hK hP 55 (wd_55 y ad cap I J) rfl 39 (by decide) (hts _ fl_X9_78) (fun _ h9 => h9) rfl dX9_goes_8 ?_
  refine lv_iload_n hx hb dX9_goes_11 rfl (lv_at hl 2 rfl) ?_
  refine va_iald (D := D) hx hb hK hP 78 0 (wd_78 y ad cap I J) rfl (vp_in_nI (by omega) (by omega)) dX9_goes_12 ?_
  rw [nI_clamp (n := k0) (by omega)]
  refine lv_topi (fun v12 ev12 => ?_)
  obtain rfl : v12 = (nI (T 11 k0)) := by
    rw [ev12, (hK9 k0 hk).2]
  refine lv_iconst (v := 1) hx hb dX9_goes_13 (by decide) ?_
  refine lv_isub hx hb dX9_goes_14 ?_
  refine lv_topi (fun v14 ev14 => ?_)
  obtain rfl : v14 = (nI (T 11 k0 - 1)) := by
    rw [ev14, show (1 : Int32) = nI 1 from rfl, pk_sub hb1]
  refine lv_lshr hx hb dX9_goes_15 rfl ?_
  refine lv_topl (fun v15 ev15 => ?_)
  refine lv_lconst (v := 1) hx hb dX9_goes_16 (by decide) ?_
  refine lv_land hx hb dX9_goes_17 ?_
  refine lv_topl (fun v17 ev17 => ?_)
  refine lv_lconst (v := 1) hx hb dX9_goes_18 (by decide) ?_
  refine W.lcmp hx hb dX9_goes_19 ?_
  refine lv_if_ne (tgt := 36) hx hb dX9_goes_20 (by decide) (fun c20 => ?_) (fun c20 => ?_)
  · skip
    have c20 := mt lc_eq.mpr c20
    refine lv_lload_n hx hb dX9_goes_36 rfl (lv_at hl 3 rfl) ?_
    refine lv_lload hx hb dX9_goes_37 (lv_at hl 0 rfl) ?_
    refine lv_aload_n hx hb dX9_goes_39 rfl (lv_at hl 1 rfl) ?_
    refine va_get (D := D) (T := TX9) (N := 51) hx hb hts jnX9 hown hK hP 55 (wd_55 y ad cap I J) rfl 38 (by decide) (hts _ fl_X9_75) (fun _ h9 => h9) rfl dX9_goes_40 ?_
    refine lv_iload_n hx hb dX9_goes_43 rfl (lv_at hl 2 rfl) ?_
    refine va_iald (D := D) hx hb hK hP 77 0 (wd_77 y ad cap I J) rfl (vp_in_nI (by omega) (by omega)) dX9_goes_44 ?_
    rw [nI_clamp (n := k0) (by omega)]
    refine lv_topi (fun v44 ev44 => ?_)
    obtain rfl : v44 = (nI (2 ^ T 10 k0)) := by
      rw [ev44, (hK9 k0 hk).1, stp_told hb1]
    refine lv_i2l (v := lN (2 ^ T 10 k0)) hx hb dX9_goes_45 (nI_l (by omega)) ?_
    refine lv_lmul hx hb dX9_goes_46 ?_
    refine lv_topl (fun v46 ev46 => ?_)
    refine lv_ladd hx hb dX9_goes_47 ?_
    refine lv_topl (fun v47 ev47 => ?_)
    refine W.lret (v := v47) hx hb hr (fun t ht hW => ⟨_, rfl, ?_, ht⟩) (fun _ h => nomatch h) dX9_goes_48
    first | exact goes_model wk1 hb1 wk2 ha hb0 hrc rfl ev15 ev17 rfl (Or.inl ⟨c20, rfl⟩) ev46 ev47 | exact goes_model wk1 hb1 wk2 ha hb0 hrc rfl ev15 ev17 ev32 (Or.inr ⟨c20, ev33⟩) ev46 ev47
  · skip
    have c20 := lc_eq.mp c20
    refine lv_lload hx hb dX9_goes_23 (lv_at hl 0 rfl) ?_
    refine lv_lconst (v := 1) hx hb dX9_goes_25 (by decide) ?_
    refine lv_aload_n hx hb dX9_goes_26 rfl (lv_at hl 1 rfl) ?_
    refine va_get (D := D) (T := TX9) (N := 51) hx hb hts jnX9 hown hK hP 55 (wd_55 y ad cap I J) rfl 39 (by decide) (hts _ fl_X9_78) (fun _ h9 => h9) rfl dX9_goes_27 ?_
    refine lv_iload_n hx hb dX9_goes_30 rfl (lv_at hl 2 rfl) ?_
    refine va_iald (D := D) hx hb hK hP 78 0 (wd_78 y ad cap I J) rfl (vp_in_nI (by omega) (by omega)) dX9_goes_31 ?_
    rw [nI_clamp (n := k0) (by omega)]
    refine lv_topi (fun v31 ev31 => ?_)
    obtain rfl : v31 = (nI (T 11 k0)) := by
      rw [ev31, (hK9 k0 hk).2]
    refine lv_lshl hx hb dX9_goes_32 rfl ?_
    refine lv_topl (fun v32 ev32 => ?_)
    refine lv_lsub hx hb dX9_goes_33 ?_
    refine lv_topl (fun v33 ev33 => ?_)
    refine lv_lstore (lv' := [(5, .long v33), (0, .ref (ad 55)), (1, .int (nI k0)), (2, .long (lN a0)), (4, .int (nI (cde (T 10 k0) (T 11 k0) a0 b0)))]) hx hb dX9_goes_34 hl (by decide) rfl (fun ls hl => ?_)
    refine lv_lload_n hx hb dX9_goes_36 rfl (lv_at hl 3 rfl) ?_
    refine lv_lload hx hb dX9_goes_37 (lv_at hl 0 rfl) ?_
    refine lv_aload_n hx hb dX9_goes_39 rfl (lv_at hl 1 rfl) ?_
    refine va_get (D := D) (T := TX9) (N := 51) hx hb hts jnX9 hown hK hP 55 (wd_55 y ad cap I J) rfl 38 (by decide) (hts _ fl_X9_75) (fun _ h9 => h9) rfl dX9_goes_40 ?_
    refine lv_iload_n hx hb dX9_goes_43 rfl (lv_at hl 2 rfl) ?_
    refine va_iald (D := D) hx hb hK hP 77 0 (wd_77 y ad cap I J) rfl (vp_in_nI (by omega) (by omega)) dX9_goes_44 ?_
    rw [nI_clamp (n := k0) (by omega)]
    refine lv_topi (fun v44 ev44 => ?_)
    obtain rfl : v44 = (nI (2 ^ T 10 k0)) := by
      rw [ev44, (hK9 k0 hk).1, stp_told hb1]
    refine lv_i2l (v := lN (2 ^ T 10 k0)) hx hb dX9_goes_45 (nI_l (by omega)) ?_
    refine lv_lmul hx hb dX9_goes_46 ?_
    refine lv_topl (fun v46 ev46 => ?_)
    refine lv_ladd hx hb dX9_goes_47 ?_
    refine lv_topl (fun v47 ev47 => ?_)
    refine W.lret (v := v47) hx hb hr (fun t ht hW => ⟨_, rfl, ?_, ht⟩) (fun _ h => nomatch h) dX9_goes_48
    first | exact goes_model wk1 hb1 wk2 ha hb0 hrc rfl ev15 ev17 rfl (Or.inl ⟨c20, rfl⟩) ev46 ev47 | exact goes_model wk1 hb1 wk2 ha hb0 hrc rfl ev15 ev17 ev32 (Or.inr ⟨c20, ev33⟩) ev46 ev47
set_option maxHeartbeats 4000000 in
set_option maxRecDepth 100000 in
theorem c_X9_encoded (l : Launch) (D : va_G) (y : Nat → ClassId) (ad : Nat → Nat) (cap : Nat → Nat) (I : Nat → Nat → Int32) (J : Nat → Nat → Int64) {TL : Nat → Nat → Nat} {M : List Th} {R : Nat} (hX : MLx I J TL M R) (hW : WF TL) (p1 p2 : Int32) : Met l yX9_encoded [.code yX9_encoded cX9_encoded 3 (some .int)] ({ frames := 1, cells := 0, slots := 0, locals := 29 }) (va_Pc [.ref (ad 55), .int p1, .int p2] (PR D y (Wd y ad cap I J))) (vp_Si (fun r => r = qEnc TL M p1 p2)) 0 0 (fun _ => False) := by
  refine Met.ofW (cc := cX9_encoded) (maxL := 3) (ret := (some .int)) (by decide) rfl ?_
  intro p e s m args below meth c s₁ B hml hv
  obtain ⟨rfl, hP, hO⟩ := hv
  have hx := B.exec
  have hb := B.bytes
  have hr := B.returns
  have hown : s.vm.findClass RX9 = some m.cls := findClass_of_methodNamed B.named
  have hlocks := B.notSynchronized
  have hK := hO.1
  have hts : ∀ w ∈ lw_E, w.before ([.ref (ad 55), .int p1, .int p2] : List Value).toArray s = true := fun w h => hO.2 w h _
  clear B
  have hl := lv_entry ([.ref (ad 55), .int p1, .int p2]) (n := 3) (Nat.le_of_ble_eq_true rfl)
  rw [lg_entry_eq]
  generalize (lg_sl ([.ref (ad 55), .int p1, .int p2]) ++ List.replicate (3 - (lg_sl ([.ref (ad 55), .int p1, .int p2])).length) Slot.unset).toArray = ls at hl ⊢
  have hl : lv_has ls 3 [(0, .ref (ad 55)), (1, .int p1), (2, .int p2)] := hl
  rcases hX with hX | hML
  · skip
    obtain ⟨m20, hz, rfl, rfl⟩ := hX
    refine lv_aload_n hx hb dX9_encoded_0 rfl (lv_at hl 0 rfl) ?_
    refine va_get (D := D) (T := TX9) (N := 51) hx hb hts jnX9 hown hK hP 55 (wd_55 y ad cap I J) rfl 20 (by decide) (hts _ fl_X9_187) (fun _ h9 => h9) rfl dX9_encoded_1 ?_
    refine lv_topi (fun v1 ev1 => ?_)
    obtain rfl : v1 = 0 := by
      rw [ev1]; exact m20
    refine lv_if_ne (tgt := 9) hx hb dX9_encoded_4 (by decide) (fun c4 => ?_) (fun c4 => ?_)
    · skip
      exact absurd c4 (by decide)
    · skip
      refine lv_iconst (v := (-1)) hx hb dX9_encoded_7 (by decide) ?_
      refine W.iret (v := (-1)) hx hb hr (fun t ht hW => ⟨_, rfl, ?_, ht⟩) (fun _ h => nomatch h) dX9_encoded_8
      exact (e_un hz _ _).symm
  · skip
    have hML0 := hML
    obtain ⟨⟨m20, m21, m22, m23, m24, m25, m40, m41, m26⟩, ⟨hTWM, htz0⟩, m69, hK9, mB, mT, hA⟩ := hML
    have hW0 := hW
    obtain ⟨⟨w1, w2, w3, w4, w5, w6, w7⟩, wS, wL, wB, wK, wTk, wT0⟩ := hW
    have hlM : M.length ≤ 2400 := TW_len hW0 hTWM
    have hnM : ∀ s, cnt M s ≤ 2400 := fun s => Nat.le_trans (cnt_le M s) hlM
    refine lv_aload_n hx hb dX9_encoded_0 rfl (lv_at hl 0 rfl) ?_
    refine va_get (D := D) (T := TX9) (N := 51) hx hb hts jnX9 hown hK hP 55 (wd_55 y ad cap I J) rfl 20 (by decide) (hts _ fl_X9_187) (fun _ h9 => h9) rfl dX9_encoded_1 ?_
    refine lv_topi (fun v1 ev1 => ?_)
    obtain rfl : v1 = 1 := by
      rw [ev1]; exact m20
    refine lv_if_ne (tgt := 9) hx hb dX9_encoded_4 (by decide) (fun c4 => ?_) (fun c4 => ?_)
    · skip
      refine lv_iload_n hx hb dX9_encoded_9 rfl (lv_at hl 1 rfl) ?_
      refine lv_if_ne (tgt := 90) hx hb dX9_encoded_10 (by decide) (fun c10 => ?_) (fun c10 => ?_)
      · skip
        refine lv_iload_n hx hb dX9_encoded_90 rfl (lv_at hl 1 rfl) ?_
        refine lv_iconst (v := 1) hx hb dX9_encoded_91 (by decide) ?_
        refine lv_icmp_ne (tgt := 137) hx hb dX9_encoded_92 (by decide) (fun c92 => ?_) (fun c92 => ?_)
        · skip
          refine lv_iconst (v := (-1)) hx hb dX9_encoded_137 (by decide) ?_
          refine W.iret (v := (-1)) hx hb hr (fun t ht hW => ⟨_, rfl, ?_, ht⟩) (fun _ h => nomatch h) dX9_encoded_138
          unfold qEnc
          rw [if_neg c10, if_neg c92]
        · skip
          subst c92
          refine lv_iload_n hx hb dX9_encoded_95 rfl (lv_at hl 2 rfl) ?_
          refine lv_iconst (v := 0) hx hb dX9_encoded_96 (by decide) ?_
          refine lv_aload_n hx hb dX9_encoded_97 rfl (lv_at hl 0 rfl) ?_
          refine va_get (D := D) (T := TX9) (N := 51) hx hb hts jnX9 hown hK hP 55 (wd_55 y ad cap I J) rfl 24 (by decide) (hts _ fl_X9_180) (fun _ h9 => h9) rfl dX9_encoded_98 ?_
          refine lv_topi (fun v98 ev98 => ?_)
          obtain rfl : v98 = (nI M.length) := by
            rw [ev98]; exact m24
          refine lv_iconst (v := 1) hx hb dX9_encoded_101 (by decide) ?_
          refine lv_isub hx hb dX9_encoded_102 ?_
          refine lv_topi (fun v102 ev102 => ?_)
          refine rk_i (run_s (As := [.int p2, .int 0, .int v102]) (rest := []) hx hb hml hown hO.2 (c_X9_in l D y p2 0 v102) k_X9_in ml_X9_110 ⟨rfl, rfl⟩ ⟨Nat.le_of_ble_eq_true rfl, Nat.le_of_ble_eq_true rfl⟩ (pre_SR hO hP) rfl hl.1 rfl (Nat.le_of_ble_eq_true rfl) dX9_encoded_103 ⟨(Nat.zero_le _), (Nat.zero_le _)⟩) (fun r103 er103 => ?_)
          try dsimp only at er103
          refine lv_if_eq (tgt := 137) hx hb dX9_encoded_106 (by decide) (fun c106 => ?_) (fun c106 => ?_)
          · skip
            have c106 := if01_z er103 c106
            have c106 := mt (in_pred (by omega) ev102).mpr c106
            refine lv_iconst (v := (-1)) hx hb dX9_encoded_137 (by decide) ?_
            refine W.iret (v := (-1)) hx hb hr (fun t ht hW => ⟨_, rfl, ?_, ht⟩) (fun _ h => nomatch h) dX9_encoded_138
            unfold qEnc
            rw [if_neg (by decide), if_pos rfl, ix_no c106]
            rfl
          · skip
            have c106 := if01_n er103 c106
            have c106 := (in_pred (by omega) ev102).mp c106
            obtain ⟨t0, j1, ht0⟩ := ix_ok (n := M.length) (by omega) c106
            subst j1
            have htz := htz0 (by omega)
            obtain ⟨kk1, kk2⟩ := wTk htz
            obtain ⟨tw1, tw2, tw3, tw4⟩ := hTWM.1 t0 ht0
            have hpl := plc_le hW0 (by omega) hTWM ht0
            have hlb := labA_le hW0 hnM tw2
            refine lv_aload_n hx hb dX9_encoded_109 rfl (lv_at hl 0 rfl) ?_
            refine lv_aload_n hx hb dX9_encoded_110 rfl (lv_at hl 0 rfl) ?_
            refine va_get (D := D) (T := TX9) (N := 51) hx hb hts jnX9 hown hK hP 55 (wd_55 y ad cap I J) rfl 41 (by decide) (hts _ fl_X9_205) (fun _ h9 => h9) rfl dX9_encoded_111 ?_
            refine lv_topi (fun v111 ev111 => ?_)
            obtain rfl : v111 = (nI (TL 0 7)) := by
              rw [ev111]; exact m41 htz
            refine lv_aload_n hx hb dX9_encoded_114 rfl (lv_at hl 0 rfl) ?_
            refine va_get (D := D) (T := TX9) (N := 51) hx hb hts jnX9 hown hK hP 55 (wd_55 y ad cap I J) rfl 42 (by decide) (hts _ fl_X9_81) (fun _ h9 => h9) rfl dX9_encoded_115 ?_
            refine lv_iload_n hx hb dX9_encoded_118 rfl (lv_at hl 2 rfl) ?_
            refine va_lald (D := D) hx hb hK hP 79 1 (wd_79 y ad cap I J) rfl (vp_in_nI (by omega) (by omega)) dX9_encoded_119 ?_
            rw [nI_clamp (n := t0) (by omega)]
            refine lv_topl (fun v119 ev119 => ?_)
            obtain rfl : v119 = (lN (plc TL M t0)) := by
              rw [ev119]; exact hA.2.2.2.1 _ (by omega)
            refine lv_aload_n hx hb dX9_encoded_120 rfl (lv_at hl 0 rfl) ?_
            refine va_get (D := D) (T := TX9) (N := 51) hx hb hts jnX9 hown hK hP 55 (wd_55 y ad cap I J) rfl 32 (by decide) (hts _ fl_X9_57) (fun _ h9 => h9) rfl dX9_encoded_121 ?_
            refine lv_aload_n hx hb dX9_encoded_124 rfl (lv_at hl 0 rfl) ?_
            refine va_get (D := D) (T := TX9) (N := 51) hx hb hts jnX9 hown hK hP 55 (wd_55 y ad cap I J) rfl 44 (by decide) (hts _ fl_X9_87) (fun _ h9 => h9) rfl dX9_encoded_125 ?_
            refine lv_iload_n hx hb dX9_encoded_128 rfl (lv_at hl 2 rfl) ?_
            refine va_iald (D := D) hx hb hK hP 81 0 (wd_81 y ad cap I J) rfl (vp_in_nI (by omega) (by omega)) dX9_encoded_129 ?_
            rw [nI_clamp (n := t0) (by omega)]
            refine lv_topi (fun v129 ev129 => ?_)
            obtain rfl : v129 = (nI ((thA M t0).2.1)) := by
              rw [ev129]; exact (mT _ (by omega)).1.2.1
            refine va_lald (D := D) hx hb hK hP 71 1 (wd_71 y ad cap I J) rfl (vp_in_nI (by omega) (by omega)) dX9_encoded_130 ?_
            rw [nI_clamp (n := (thA M t0).2.1) (by omega)]
            refine lv_topl (fun v130 ev130 => ?_)
            obtain rfl : v130 = (lN (labA TL (cnt M) ((thA M t0).2.1))) := by
              rw [ev130]; exact hA.2.1 _ (by omega)
            refine rk_i (run_v (As := [.int (nI (TL 0 7)), .long (lN (plc TL M t0)), .long (lN (labA TL (cnt M) ((thA M t0).2.1)))]) (rest := []) (b := (ad 55)) hx hb hml hown hO.2 (c_X9_laidReaches l D y ad cap I J hK9 hW0 (k0 := TL 0 7) (a0 := plc TL M t0) (b0 := labA TL (cnt M) (thA M t0).2.1) kk1 kk2 (by omega) (by omega)) k_X9_laidReaches ml_X9_225 ⟨rfl, rfl⟩ ⟨Nat.le_of_ble_eq_true rfl, Nat.le_of_ble_eq_true rfl⟩ (pre_VR hO hP (wd_55 y ad cap I J) rfl) rfl hl.1 rfl (Nat.le_of_ble_eq_true rfl) dX9_encoded_131 ⟨(Nat.zero_le _), (Nat.zero_le _)⟩) (fun r131 er131 => ?_)
            try dsimp only at er131
            refine lv_if_ne (tgt := 139) hx hb dX9_encoded_134 (by decide) (fun c134 => ?_) (fun c134 => ?_)
            · skip
              have c134 := if01_n er131 c134
              refine lv_aload_n hx hb dX9_encoded_139 rfl (lv_at hl 0 rfl) ?_
              refine lv_aload_n hx hb dX9_encoded_140 rfl (lv_at hl 0 rfl) ?_
              refine va_get (D := D) (T := TX9) (N := 51) hx hb hts jnX9 hown hK hP 55 (wd_55 y ad cap I J) rfl 41 (by decide) (hts _ fl_X9_205) (fun _ h9 => h9) rfl dX9_encoded_141 ?_
              refine lv_topi (fun v141 ev141 => ?_)
              obtain rfl : v141 = (nI (TL 0 7)) := by
                rw [ev141]; exact m41 htz
              refine lv_aload_n hx hb dX9_encoded_144 rfl (lv_at hl 0 rfl) ?_
              refine va_get (D := D) (T := TX9) (N := 51) hx hb hts jnX9 hown hK hP 55 (wd_55 y ad cap I J) rfl 42 (by decide) (hts _ fl_X9_81) (fun _ h9 => h9) rfl dX9_encoded_145 ?_
              refine lv_iload_n hx hb dX9_encoded_148 rfl (lv_at hl 2 rfl) ?_
              refine va_lald (D := D) hx hb hK hP 79 1 (wd_79 y ad cap I J) rfl (vp_in_nI (by omega) (by omega)) dX9_encoded_149 ?_
              rw [nI_clamp (n := t0) (by omega)]
              refine lv_topl (fun v149 ev149 => ?_)
              obtain rfl : v149 = (lN (plc TL M t0)) := by
                rw [ev149]; exact hA.2.2.2.1 _ (by omega)
              refine lv_aload_n hx hb dX9_encoded_150 rfl (lv_at hl 0 rfl) ?_
              refine va_get (D := D) (T := TX9) (N := 51) hx hb hts jnX9 hown hK hP 55 (wd_55 y ad cap I J) rfl 32 (by decide) (hts _ fl_X9_57) (fun _ h9 => h9) rfl dX9_encoded_151 ?_
              refine lv_aload_n hx hb dX9_encoded_154 rfl (lv_at hl 0 rfl) ?_
              refine va_get (D := D) (T := TX9) (N := 51) hx hb hts jnX9 hown hK hP 55 (wd_55 y ad cap I J) rfl 44 (by decide) (hts _ fl_X9_87) (fun _ h9 => h9) rfl dX9_encoded_155 ?_
              refine lv_iload_n hx hb dX9_encoded_158 rfl (lv_at hl 2 rfl) ?_
              refine va_iald (D := D) hx hb hK hP 81 0 (wd_81 y ad cap I J) rfl (vp_in_nI (by omega) (by omega)) dX9_encoded_159 ?_
              rw [nI_clamp (n := t0) (by omega)]
              refine lv_topi (fun v159 ev159 => ?_)
              obtain rfl : v159 = (nI ((thA M t0).2.1)) := by
                rw [ev159]; exact (mT _ (by omega)).1.2.1
              refine va_lald (D := D) hx hb hK hP 71 1 (wd_71 y ad cap I J) rfl (vp_in_nI (by omega) (by omega)) dX9_encoded_160 ?_
              rw [nI_clamp (n := (thA M t0).2.1) (by omega)]
              refine lv_topl (fun v160 ev160 => ?_)
              obtain rfl : v160 = (lN (labA TL (cnt M) ((thA M t0).2.1))) := by
                rw [ev160]; exact hA.2.1 _ (by omega)
              refine rk_i (run_v (As := [.int (nI (TL 0 7)), .long (lN (plc TL M t0)), .long (lN (labA TL (cnt M) ((thA M t0).2.1)))]) (rest := []) (b := (ad 55)) hx hb hml hown hO.2 (c_X9_way l D y ad cap I J hK9 hW0 (k0 := TL 0 7) (a0 := plc TL M t0) (b0 := labA TL (cnt M) (thA M t0).2.1) kk1 kk2 (by omega) (by omega) c134) k_X9_way ml_X9_221 ⟨rfl, rfl⟩ ⟨Nat.le_of_ble_eq_true rfl, Nat.le_of_ble_eq_true rfl⟩ (pre_VR hO hP (wd_55 y ad cap I J) rfl) rfl hl.1 rfl (Nat.le_of_ble_eq_true rfl) dX9_encoded_161 ⟨(Nat.zero_le _), (Nat.zero_le _)⟩) (fun r161 er161 => ?_)
              try dsimp only at er161
              refine W.iret (v := r161) hx hb hr (fun t ht hW => ⟨_, rfl, ?_, ht⟩) (fun _ h => nomatch h) dX9_encoded_164
              unfold qEnc
              rw [if_neg (by decide), if_pos rfl, ix_in (n := M.length) (by omega) ht0]
              simp only [Option.bind_some]
              unfold cdT
              rw [if_pos c134]
              exact er161
            · skip
              have c134 := if01_z er131 c134
              refine lv_iconst (v := (-1)) hx hb dX9_encoded_137 (by decide) ?_
              refine W.iret (v := (-1)) hx hb hr (fun t ht hW => ⟨_, rfl, ?_, ht⟩) (fun _ h => nomatch h) dX9_encoded_138
              unfold qEnc
              rw [if_neg (by decide), if_pos rfl, ix_in (n := M.length) (by omega) ht0]
              simp only [Option.bind_some]
              unfold cdT
              rw [if_neg c134]
              rfl
      · skip
        subst c10
        refine lv_iload_n hx hb dX9_encoded_13 rfl (lv_at hl 2 rfl) ?_
        refine lv_iconst (v := 0) hx hb dX9_encoded_14 (by decide) ?_
        refine lv_aload_n hx hb dX9_encoded_15 rfl (lv_at hl 0 rfl) ?_
        refine va_get (D := D) (T := TX9) (N := 51) hx hb hts jnX9 hown hK hP 55 (wd_55 y ad cap I J) rfl 23 (by decide) (hts _ fl_X9_196) (fun _ h9 => h9) rfl dX9_encoded_16 ?_
        refine lv_topi (fun v16 ev16 => ?_)
        obtain rfl : v16 = (nI (TL 0 2)) := by
          rw [ev16]; exact m23
        refine lv_iconst (v := 1) hx hb dX9_encoded_19 (by decide) ?_
        refine lv_isub hx hb dX9_encoded_20 ?_
        refine lv_topi (fun v20 ev20 => ?_)
        refine rk_i (run_s (As := [.int p2, .int 0, .int v20]) (rest := []) hx hb hml hown hO.2 (c_X9_in l D y p2 0 v20) k_X9_in ml_X9_110 ⟨rfl, rfl⟩ ⟨Nat.le_of_ble_eq_true rfl, Nat.le_of_ble_eq_true rfl⟩ (pre_SR hO hP) rfl hl.1 rfl (Nat.le_of_ble_eq_true rfl) dX9_encoded_21 ⟨(Nat.zero_le _), (Nat.zero_le _)⟩) (fun r21 er21 => ?_)
        try dsimp only at er21
        refine lv_if_eq (tgt := 90) hx hb dX9_encoded_24 (by decide) (fun c24 => ?_) (fun c24 => ?_)
        · skip
          have c24 := if01_z er21 c24
          have c24 := mt (in_pred (by omega) ev20).mpr c24
          refine lv_iload_n hx hb dX9_encoded_90 rfl (lv_at hl 1 rfl) ?_
          refine lv_iconst (v := 1) hx hb dX9_encoded_91 (by decide) ?_
          refine lv_icmp_ne (tgt := 137) hx hb dX9_encoded_92 (by decide) (fun c92 => ?_) (fun c92 => ?_)
          · skip
            refine lv_iconst (v := (-1)) hx hb dX9_encoded_137 (by decide) ?_
            refine W.iret (v := (-1)) hx hb hr (fun t ht hW => ⟨_, rfl, ?_, ht⟩) (fun _ h => nomatch h) dX9_encoded_138
            unfold qEnc
            rw [if_pos rfl, ix_no c24]
            rfl
          · skip
            exact absurd c92 (by decide)
        · skip
          have c24 := if01_n er21 c24
          have c24 := (in_pred (by omega) ev20).mp c24
          obtain ⟨b0, j1, hb0⟩ := ix_ok (n := TL 0 2) (by omega) c24
          subst j1
          obtain ⟨x1, x2, x6, x7, x8⟩ := wB b0 hb0
          obtain ⟨x3, x4, x5⟩ := wS _ x1
          have hwy := wy_lt TL M b0
          have hbr := braA_le hW0 hnM hb0
          have hlb := labA_le hW0 hnM x8
          refine lv_aload_n hx hb dX9_encoded_27 rfl (lv_at hl 0 rfl) ?_
          refine va_get (D := D) (T := TX9) (N := 51) hx hb hts jnX9 hown hK hP 55 (wd_55 y ad cap I J) rfl 36 (by decide) (hts _ fl_X9_69) (fun _ h9 => h9) rfl dX9_encoded_28 ?_
          refine lv_iload_n hx hb dX9_encoded_31 rfl (lv_at hl 2 rfl) ?_
          refine va_iald (D := D) hx hb hK hP 75 0 (wd_75 y ad cap I J) rfl (vp_in_nI (by omega) (by omega)) dX9_encoded_32 ?_
          rw [nI_clamp (n := b0) (by omega)]
          refine lv_topi (fun v32 ev32 => ?_)
          obtain rfl : v32 = (nI (wyB TL M b0)) := by
            rw [ev32]; exact (mB _ (by omega)).2.2.1
          refine lv_iconst (v := 2) hx hb dX9_encoded_33 (by decide) ?_
          refine lv_icmp_ne (tgt := 39) hx hb dX9_encoded_34 (by decide) (fun c34 => ?_) (fun c34 => ?_)
          · skip
            have c34 := mt (nI_eq (a := (wyB TL M b0)) (b := 2) (by omega) (by omega)).mpr c34
            refine lv_aload_n hx hb dX9_encoded_39 rfl (lv_at hl 0 rfl) ?_
            refine lv_aload_n hx hb dX9_encoded_40 rfl (lv_at hl 0 rfl) ?_
            refine va_get (D := D) (T := TX9) (N := 51) hx hb hts jnX9 hown hK hP 55 (wd_55 y ad cap I J) rfl 34 (by decide) (hts _ fl_X9_63) (fun _ h9 => h9) rfl dX9_encoded_41 ?_
            refine lv_iload_n hx hb dX9_encoded_44 rfl (lv_at hl 2 rfl) ?_
            refine va_iald (D := D) hx hb hK hP 73 0 (wd_73 y ad cap I J) rfl (vp_in_nI (by omega) (by omega)) dX9_encoded_45 ?_
            rw [nI_clamp (n := b0) (by omega)]
            refine lv_topi (fun v45 ev45 => ?_)
            obtain rfl : v45 = (nI (TL 8 b0)) := by
              rw [ev45]; exact (mB _ (by omega)).1
            refine lv_aload_n hx hb dX9_encoded_46 rfl (lv_at hl 0 rfl) ?_
            refine va_get (D := D) (T := TX9) (N := 51) hx hb hts jnX9 hown hK hP 55 (wd_55 y ad cap I J) rfl 33 (by decide) (hts _ fl_X9_60) (fun _ h9 => h9) rfl dX9_encoded_47 ?_
            refine lv_iload_n hx hb dX9_encoded_50 rfl (lv_at hl 2 rfl) ?_
            refine va_lald (D := D) hx hb hK hP 72 1 (wd_72 y ad cap I J) rfl (vp_in_nI (by omega) (by omega)) dX9_encoded_51 ?_
            rw [nI_clamp (n := b0) (by omega)]
            refine lv_topl (fun v51 ev51 => ?_)
            obtain rfl : v51 = (lN (braA TL (cnt M) b0)) := by
              rw [ev51]; exact hA.2.2.1 _ (by omega)
            refine lv_aload_n hx hb dX9_encoded_52 rfl (lv_at hl 0 rfl) ?_
            refine va_get (D := D) (T := TX9) (N := 51) hx hb hts jnX9 hown hK hP 55 (wd_55 y ad cap I J) rfl 36 (by decide) (hts _ fl_X9_69) (fun _ h9 => h9) rfl dX9_encoded_53 ?_
            refine lv_iload_n hx hb dX9_encoded_56 rfl (lv_at hl 2 rfl) ?_
            refine va_iald (D := D) hx hb hK hP 75 0 (wd_75 y ad cap I J) rfl (vp_in_nI (by omega) (by omega)) dX9_encoded_57 ?_
            rw [nI_clamp (n := b0) (by omega)]
            refine lv_topi (fun v57 ev57 => ?_)
            obtain rfl : v57 = (nI (wyB TL M b0)) := by
              rw [ev57]; exact (mB _ (by omega)).2.2.1
            refine lv_if_ne (tgt := 75) hx hb dX9_encoded_58 (by decide) (fun c58 => ?_) (fun c58 => ?_)
            · skip
              obtain ⟨t0, hbt, hdr⟩ := wy_t c34 (mt (fun h9 => by rw [h9]; rfl) c58)
              have hrt : rtB TL M b0 = some t0 := by unfold rtB; rw [if_neg hdr]; exact hbt
              have ht0 := bst_lt _ _ hbt
              have hpl := plc_le hW0 (by omega) hTWM ht0
              obtain ⟨hh1, hh2⟩ := help_split (bst_help _ _ hbt).1
              refine lv_aload_n hx hb dX9_encoded_75 rfl (lv_at hl 0 rfl) ?_
              refine va_get (D := D) (T := TX9) (N := 51) hx hb hts jnX9 hown hK hP 55 (wd_55 y ad cap I J) rfl 42 (by decide) (hts _ fl_X9_81) (fun _ h9 => h9) rfl dX9_encoded_76 ?_
              refine lv_aload_n hx hb dX9_encoded_79 rfl (lv_at hl 0 rfl) ?_
              refine va_get (D := D) (T := TX9) (N := 51) hx hb hts jnX9 hown hK hP 55 (wd_55 y ad cap I J) rfl 37 (by decide) (hts _ fl_X9_72) (fun _ h9 => h9) rfl dX9_encoded_80 ?_
              refine lv_iload_n hx hb dX9_encoded_83 rfl (lv_at hl 2 rfl) ?_
              refine va_iald (D := D) hx hb hK hP 76 0 (wd_76 y ad cap I J) rfl (vp_in_nI (by omega) (by omega)) dX9_encoded_84 ?_
              rw [nI_clamp (n := b0) (by omega)]
              refine lv_topi (fun v84 ev84 => ?_)
              obtain rfl : v84 = (nI t0) := by
                rw [ev84, (mB _ hb0).2.2.2, hrt]; rfl
              refine va_lald (D := D) hx hb hK hP 79 1 (wd_79 y ad cap I J) rfl (vp_in_nI (by omega) (by omega)) dX9_encoded_85 ?_
              rw [nI_clamp (n := t0) (by omega)]
              refine lv_topl (fun v85 ev85 => ?_)
              obtain rfl : v85 = (lN (plc TL M t0)) := by
                rw [ev85]; exact hA.2.2.2.1 _ (by omega)
              refine rk_i (run_v (As := [.int (nI (TL 8 b0)), .long (lN (braA TL (cnt M) b0)), .long (lN (plc TL M t0))]) (rest := []) (b := (ad 55)) hx hb hml hown hO.2 (c_X9_way l D y ad cap I J hK9 hW0 (k0 := TL 8 b0) (a0 := braA TL (cnt M) b0) (b0 := plc TL M t0) x6 x7 (by omega) (by omega) hh1) k_X9_way ml_X9_221 ⟨rfl, rfl⟩ ⟨Nat.le_of_ble_eq_true rfl, Nat.le_of_ble_eq_true rfl⟩ (pre_VR hO hP (wd_55 y ad cap I J) rfl) rfl hl.1 rfl (Nat.le_of_ble_eq_true rfl) dX9_encoded_86 ⟨(Nat.zero_le _), (Nat.zero_le _)⟩) (fun r86 er86 => ?_)
              try dsimp only at er86
              refine W.iret (v := r86) hx hb hr (fun t ht hW => ⟨_, rfl, ?_, ht⟩) (fun _ h => nomatch h) dX9_encoded_89
              unfold qEnc
              rw [if_pos rfl, ix_in (n := TL 0 2) (by omega) hb0]
              simp only [Option.bind_some]
              unfold cdB
              rw [if_neg hdr, hbt]
              exact er86
            · skip
              have hdr := wy_d ((nI_z (by omega)).mp c58)
              refine lv_aload_n hx hb dX9_encoded_61 rfl (lv_at hl 0 rfl) ?_
              refine va_get (D := D) (T := TX9) (N := 51) hx hb hts jnX9 hown hK hP 55 (wd_55 y ad cap I J) rfl 32 (by decide) (hts _ fl_X9_57) (fun _ h9 => h9) rfl dX9_encoded_62 ?_
              refine lv_aload_n hx hb dX9_encoded_65 rfl (lv_at hl 0 rfl) ?_
              refine va_get (D := D) (T := TX9) (N := 51) hx hb hts jnX9 hown hK hP 55 (wd_55 y ad cap I J) rfl 35 (by decide) (hts _ fl_X9_66) (fun _ h9 => h9) rfl dX9_encoded_66 ?_
              refine lv_iload_n hx hb dX9_encoded_69 rfl (lv_at hl 2 rfl) ?_
              refine va_iald (D := D) hx hb hK hP 74 0 (wd_74 y ad cap I J) rfl (vp_in_nI (by omega) (by omega)) dX9_encoded_70 ?_
              rw [nI_clamp (n := b0) (by omega)]
              refine lv_topi (fun v70 ev70 => ?_)
              obtain rfl : v70 = (nI (TL 9 b0)) := by
                rw [ev70]; exact (mB _ (by omega)).2.1
              refine va_lald (D := D) hx hb hK hP 71 1 (wd_71 y ad cap I J) rfl (vp_in_nI (by omega) (by omega)) dX9_encoded_71 ?_
              rw [nI_clamp (n := TL 9 b0) (by omega)]
              refine lv_topl (fun v71 ev71 => ?_)
              obtain rfl : v71 = (lN (labA TL (cnt M) (TL 9 b0))) := by
                rw [ev71]; exact hA.2.1 _ (by omega)
              refine lv_goto (tgt := 86) hx hb dX9_encoded_72 (by decide) ?_
              refine rk_i (run_v (As := [.int (nI (TL 8 b0)), .long (lN (braA TL (cnt M) b0)), .long (lN (labA TL (cnt M) (TL 9 b0)))]) (rest := []) (b := (ad 55)) hx hb hml hown hO.2 (c_X9_way l D y ad cap I J hK9 hW0 (k0 := TL 8 b0) (a0 := braA TL (cnt M) b0) (b0 := labA TL (cnt M) (TL 9 b0)) x6 x7 (by omega) (by omega) hdr) k_X9_way ml_X9_221 ⟨rfl, rfl⟩ ⟨Nat.le_of_ble_eq_true rfl, Nat.le_of_ble_eq_true rfl⟩ (pre_VR hO hP (wd_55 y ad cap I J) rfl) rfl hl.1 rfl (Nat.le_of_ble_eq_true rfl) dX9_encoded_86 ⟨(Nat.zero_le _), (Nat.zero_le _)⟩) (fun r86 er86 => ?_)
              try dsimp only at er86
              refine W.iret (v := r86) hx hb hr (fun t ht hW => ⟨_, rfl, ?_, ht⟩) (fun _ h => nomatch h) dX9_encoded_89
              unfold qEnc
              rw [if_pos rfl, ix_in (n := TL 0 2) (by omega) hb0]
              simp only [Option.bind_some]
              unfold cdB
              rw [if_pos hdr]
              exact er86
          · skip
            have c34 := (nI_eq (a := (wyB TL M b0)) (b := 2) (by omega) (by omega)).mp c34
            refine lv_iconst (v := (-1)) hx hb dX9_encoded_37 (by decide) ?_
            refine W.iret (v := (-1)) hx hb hr (fun t ht hW => ⟨_, rfl, ?_, ht⟩) (fun _ h => nomatch h) dX9_encoded_38
            unfold qEnc
            rw [if_pos rfl, ix_in (n := TL 0 2) (by omega) hb0]
            simp only [Option.bind_some]
            rw [cdB_none.mpr c34]
            rfl
    · skip
      exact absurd c4 (by decide)
set_option maxHeartbeats 4000000 in
set_option maxRecDepth 100000 in
theorem c_X9_at (l : Launch) (D : va_G) (y : Nat → ClassId) (ad : Nat → Nat) (cap : Nat → Nat) (I : Nat → Nat → Int32) (J : Nat → Nat → Int64) {TL : Nat → Nat → Nat} {M : List Th} {R : Nat} (hX : MLx I J TL M R) (hW : WF TL) (x0 : Int64) : Met l yX9_at [.code yX9_at cX9_at 4 (some .int)] ({ frames := 0, cells := 0, slots := 0, locals := 0 }) (va_Pc [.ref (ad 55), .long x0] (PR D y (Wd y ad cap I J))) (vp_Si (fun r => r = atB TL M x0)) 0 0 (fun _ => False) := by
  refine Met.ofW (cc := cX9_at) (maxL := 4) (ret := (some .int)) (by decide) rfl ?_
  intro p e s m args below meth c s₁ B hml hv
  obtain ⟨rfl, hP, hO⟩ := hv
  have hx := B.exec
  have hb := B.bytes
  have hr := B.returns
  have hown : s.vm.findClass RX9 = some m.cls := findClass_of_methodNamed B.named
  have hlocks := B.notSynchronized
  have hK := hO.1
  have hts : ∀ w ∈ lw_E, w.before ([.ref (ad 55), .long x0] : List Value).toArray s = true := fun w h => hO.2 w h _
  clear B
  have hl := lv_entry ([.ref (ad 55), .long x0]) (n := 4) (Nat.le_of_ble_eq_true rfl)
  rw [lg_entry_eq]
  generalize (lg_sl ([.ref (ad 55), .long x0]) ++ List.replicate (4 - (lg_sl ([.ref (ad 55), .long x0])).length) Slot.unset).toArray = ls at hl ⊢
  have hl : lv_has ls 4 [(0, .ref (ad 55)), (1, .long x0)] := hl
  rcases hX with hX | hML
  · skip
    obtain ⟨m20, hz, rfl, rfl⟩ := hX
    refine lv_aload_n hx hb dX9_at_0 rfl (lv_at hl 0 rfl) ?_
    refine va_get (D := D) (T := TX9) (N := 51) hx hb hts jnX9 hown hK hP 55 (wd_55 y ad cap I J) rfl 20 (by decide) (hts _ fl_X9_187) (fun _ h9 => h9) rfl dX9_at_1 ?_
    refine lv_topi (fun v1 ev1 => ?_)
    obtain rfl : v1 = 0 := by
      rw [ev1]; exact m20
    refine lv_if_eq (tgt := 32) hx hb dX9_at_4 (by decide) (fun c4 => ?_) (fun c4 => ?_)
    · skip
      refine lv_iconst (v := (-1)) hx hb dX9_at_32 (by decide) ?_
      refine W.iret (v := (-1)) hx hb hr (fun t ht hW => ⟨_, rfl, ?_, ht⟩) (fun _ h => nomatch h) dX9_at_33
      exact (at_un (hz 0 0) _).symm
    · skip
      exact absurd c4 (by decide)
  · skip
    have hML0 := hML
    obtain ⟨⟨m20, m21, m22, m23, m24, m25, m40, m41, m26⟩, ⟨hTWM, htz0⟩, m69, hK9, mB, mT, hA⟩ := hML
    have hW0 := hW
    obtain ⟨⟨w1, w2, w3, w4, w5, w6, w7⟩, wS, wL, wB, wK, wTk, wT0⟩ := hW
    have hlM : M.length ≤ 2400 := TW_len hW0 hTWM
    have hnM : ∀ s, cnt M s ≤ 2400 := fun s => Nat.le_trans (cnt_le M s) hlM
    refine lv_aload_n hx hb dX9_at_0 rfl (lv_at hl 0 rfl) ?_
    refine va_get (D := D) (T := TX9) (N := 51) hx hb hts jnX9 hown hK hP 55 (wd_55 y ad cap I J) rfl 20 (by decide) (hts _ fl_X9_187) (fun _ h9 => h9) rfl dX9_at_1 ?_
    refine lv_topi (fun v1 ev1 => ?_)
    obtain rfl : v1 = 1 := by
      rw [ev1]; exact m20
    refine lv_if_eq (tgt := 32) hx hb dX9_at_4 (by decide) (fun c4 => ?_) (fun c4 => ?_)
    · skip
      exact absurd c4 (by decide)
    · skip
      refine lv_aload_n hx hb dX9_at_7 rfl (lv_at hl 0 rfl) ?_
      refine va_get (D := D) (T := TX9) (N := 51) hx hb hts jnX9 hown hK hP 55 (wd_55 y ad cap I J) rfl 21 (by decide) (hts _ fl_X9_190) (fun _ h9 => h9) rfl dX9_at_8 ?_
      refine lv_topi (fun v8 ev8 => ?_)
      obtain rfl : v8 = (nI (TL 0 0)) := by
        rw [ev8]; exact m21
      refine lv_if_eq (tgt := 32) hx hb dX9_at_11 (by decide) (fun c11 => ?_) (fun c11 => ?_)
      · skip
        refine lv_iconst (v := (-1)) hx hb dX9_at_32 (by decide) ?_
        refine W.iret (v := (-1)) hx hb hr (fun t ht hW => ⟨_, rfl, ?_, ht⟩) (fun _ h => nomatch h) dX9_at_33
        first | exact (at_un ((nI_z (by omega)).mp c11) _).symm | (unfold atB; rw [if_pos (Or.inl c20)]; done) | (unfold atB; rw [if_pos (Or.inr c29)]; done)
      · skip
        refine lv_lload_n hx hb dX9_at_14 rfl (lv_at hl 1 rfl) ?_
        refine lv_aload_n hx hb dX9_at_15 rfl (lv_at hl 0 rfl) ?_
        refine va_get (D := D) (T := TX9) (N := 51) hx hb hts jnX9 hown hK hP 55 (wd_55 y ad cap I J) rfl 26 (by decide) (hts _ fl_X9_199) (fun _ h9 => h9) rfl dX9_at_16 ?_
        refine lv_topl (fun v16 ev16 => ?_)
        obtain rfl : v16 = (lN (TL 0 4)) := by
          rw [ev16]; exact m26
        refine W.lcmp hx hb dX9_at_19 ?_
        refine lv_if_lt (tgt := 32) hx hb dX9_at_20 (by decide) (fun c20 => ?_) (fun c20 => ?_)
        · skip
          have c20 := lc_lt.mp c20
          try rw [← Int64.not_lt] at c20
          refine lv_iconst (v := (-1)) hx hb dX9_at_32 (by decide) ?_
          refine W.iret (v := (-1)) hx hb hr (fun t ht hW => ⟨_, rfl, ?_, ht⟩) (fun _ h => nomatch h) dX9_at_33
          first | exact (at_un ((nI_z (by omega)).mp c11) _).symm | (unfold atB; rw [if_pos (Or.inl c20)]; done) | (unfold atB; rw [if_pos (Or.inr c29)]; done)
        · skip
          have c20 := mt lc_lt.mpr c20
          try rw [← Int64.not_lt] at c20
          refine lv_lload_n hx hb dX9_at_23 rfl (lv_at hl 1 rfl) ?_
          refine lv_aload_n hx hb dX9_at_24 rfl (lv_at hl 0 rfl) ?_
          refine va_get (D := D) (T := TX9) (N := 51) hx hb hts jnX9 hown hK hP 55 (wd_55 y ad cap I J) rfl 27 (by decide) (hts _ fl_X9_143) (fun _ h9 => h9) rfl dX9_at_25 ?_
          refine lv_topl (fun v25 ev25 => ?_)
          obtain rfl : v25 = (lN (sAt TL (cnt M) (TL 0 0))) := by
            rw [ev25]; exact hA.2.2.2.2
          refine W.lcmp hx hb dX9_at_28 ?_
          refine lv_if_lt (tgt := 34) hx hb dX9_at_29 (by decide) (fun c29 => ?_) (fun c29 => ?_)
          · skip
            have c29 := lc_lt.mp c29
            refine lv_iconst (v := 0) hx hb dX9_at_34 (by decide) ?_
            rw [show (0 : Int32) = (nI 0) from rfl]
            refine lv_istore_n (lv' := [(3, .int (nI 0)), (0, .ref (ad 55)), (1, .long x0)]) hx hb dX9_at_35 rfl hl (by decide) rfl (fun ls hl => ?_)
            have loop36 : ∀ (n36 : Nat) (k : Nat) , (k ≤ TL 0 0) → (∀ j, j < k → ¬ inS TL (cnt M) x0 j = true) → TL 0 0 + 1 ≤ k + n36 → ∀ ls : Array Slot, lv_has ls 4 [(0, .ref (ad 55)), (1, .long x0), (3, .int (nI k))] → W p l e (headSpec [.code yX9_at cX9_at 4 (some .int)] ({ frames := 0, cells := 0, slots := 0, locals := 0 })).room s m ([.ref (ad 55), .long x0] : List Value).toArray below meth c s.heap [] 0 0 (MQ below (vp_Si (fun r => r = atB TL M x0)) ([.ref (ad 55), .long x0] : List Value).toArray s 0 0 (fun _ => False)) (F0 m 36 ls []) := by
              intro n36
              induction n36 with
              | zero =>
                intro k hk hS9 hmeas
                exact absurd hmeas (by omega)
              | succ n36 ih36 =>
                intro k hk hS9 hmeas ls hl
                refine lv_iload_n hx hb dX9_at_36 rfl (lv_at hl 2 rfl) ?_
                refine lv_aload_n hx hb dX9_at_37 rfl (lv_at hl 0 rfl) ?_
                refine va_get (D := D) (T := TX9) (N := 51) hx hb hts jnX9 hown hK hP 55 (wd_55 y ad cap I J) rfl 21 (by decide) (hts _ fl_X9_190) (fun _ h9 => h9) rfl dX9_at_38 ?_
                refine lv_topi (fun v38 ev38 => ?_)
                obtain rfl : v38 = (nI (TL 0 0)) := by
                  rw [ev38]; exact m21
                refine lv_icmp_ge (tgt := 78) hx hb dX9_at_41 (by decide) (fun c41 => ?_) (fun c41 => ?_)
                · skip
                  have c41 := (nI_leI (a := (TL 0 0)) (b := k) (by omega) (by omega)).mp c41
                  have hS8 : ∀ j, j < TL 0 0 → ¬ inS TL (cnt M) x0 j = true := fun j hj => hS9 j (by omega)
                  refine lv_iconst (v := 0) hx hb dX9_at_78 (by decide) ?_
                  rw [show (0 : Int32) = (nI 0) from rfl]
                  refine lv_istore_n (lv' := [(3, .int (nI 0)), (0, .ref (ad 55)), (1, .long x0)]) hx hb dX9_at_79 rfl hl (by decide) rfl (fun ls hl => ?_)
                  have loop80 : ∀ (n80 : Nat) (k : Nat) , (k ≤ M.length) → (∀ j, j < k → ¬ inT TL M x0 j = true) → M.length + 1 ≤ k + n80 → ∀ ls : Array Slot, lv_has ls 4 [(0, .ref (ad 55)), (1, .long x0), (3, .int (nI k))] → W p l e (headSpec [.code yX9_at cX9_at 4 (some .int)] ({ frames := 0, cells := 0, slots := 0, locals := 0 })).room s m ([.ref (ad 55), .long x0] : List Value).toArray below meth c s.heap [] 0 0 (MQ below (vp_Si (fun r => r = atB TL M x0)) ([.ref (ad 55), .long x0] : List Value).toArray s 0 0 (fun _ => False)) (F0 m 80 ls []) := by
                    intro n80
                    induction n80 with
                    | zero =>
                      intro k hk hT9 hmeas
                      exact absurd hmeas (by omega)
                    | succ n80 ih80 =>
                      intro k hk hT9 hmeas ls hl
                      refine lv_iload_n hx hb dX9_at_80 rfl (lv_at hl 2 rfl) ?_
                      refine lv_aload_n hx hb dX9_at_81 rfl (lv_at hl 0 rfl) ?_
                      refine va_get (D := D) (T := TX9) (N := 51) hx hb hts jnX9 hown hK hP 55 (wd_55 y ad cap I J) rfl 24 (by decide) (hts _ fl_X9_180) (fun _ h9 => h9) rfl dX9_at_82 ?_
                      refine lv_topi (fun v82 ev82 => ?_)
                      obtain rfl : v82 = (nI M.length) := by
                        rw [ev82]; exact m24
                      refine lv_icmp_ge (tgt := 128) hx hb dX9_at_85 (by decide) (fun c85 => ?_) (fun c85 => ?_)
                      · skip
                        have c85 := (nI_leI (a := M.length) (b := k) (by omega) (by omega)).mp c85
                        refine lv_iconst (v := 0) hx hb dX9_at_128 (by decide) ?_
                        refine W.iret (v := 0) hx hb hr (fun t ht hW => ⟨_, rfl, ?_, ht⟩) (fun _ h => nomatch h) dX9_at_129
                        unfold atB
                        rw [if_neg (fun h9 => h9.elim c20 (fun h8 => h8 c29))]
                        rw [fst_none hS8, fst_none (fun j hj => hT9 j (by omega))]
                      · skip
                        have c85 := mt (nI_leI (a := M.length) (b := k) (by omega) (by omega)).mpr c85
                        have hpl := plc_le hW0 (by omega) hTWM (t := k) (by omega)
                        refine lv_lload_n hx hb dX9_at_88 rfl (lv_at hl 1 rfl) ?_
                        refine lv_aload_n hx hb dX9_at_89 rfl (lv_at hl 0 rfl) ?_
                        refine va_get (D := D) (T := TX9) (N := 51) hx hb hts jnX9 hown hK hP 55 (wd_55 y ad cap I J) rfl 42 (by decide) (hts _ fl_X9_81) (fun _ h9 => h9) rfl dX9_at_90 ?_
                        refine lv_iload_n hx hb dX9_at_93 rfl (lv_at hl 2 rfl) ?_
                        refine va_lald (D := D) hx hb hK hP 79 1 (wd_79 y ad cap I J) rfl (vp_in_nI (by omega) (by omega)) dX9_at_94 ?_
                        rw [nI_clamp (n := k) (by omega)]
                        refine lv_topl (fun v94 ev94 => ?_)
                        obtain rfl : v94 = (lN (plc TL M k)) := by
                          rw [ev94]; exact hA.2.2.2.1 _ (by omega)
                        refine W.lcmp hx hb dX9_at_95 ?_
                        refine lv_if_lt (tgt := 122) hx hb dX9_at_96 (by decide) (fun c96 => ?_) (fun c96 => ?_)
                        · skip
                          have c96 := lc_lt.mp c96
                          try rw [← Int64.not_lt] at c96
                          refine lv_iinc (v := (nI (k + 1))) (lv' := [(3, .int (nI (k + 1))), (0, .ref (ad 55)), (1, .long x0)]) hx hb dX9_at_122 hl (k := 2) rfl (nI_1 _) (by decide) rfl (fun ls hl => ?_)
                          refine lv_goto (tgt := 80) hx hb dX9_at_125 (by decide) ?_
                          exact ih80 (k + 1) (by omega) (fun j hj => by rcases Nat.lt_succ_iff_lt_or_eq.mp hj with h9 | h9; exact hT9 j h9; (rw [h9]; unfold inT; rw [decide_eq_true_iff]; exact (fun h9 => h9.1 c96))) (by omega) ls (by exact lv_sub hl [1, 2, 0] rfl)
                        · skip
                          have c96 := mt lc_lt.mpr c96
                          refine lv_lload_n hx hb dX9_at_99 rfl (lv_at hl 1 rfl) ?_
                          refine lv_aload_n hx hb dX9_at_100 rfl (lv_at hl 0 rfl) ?_
                          refine va_get (D := D) (T := TX9) (N := 51) hx hb hts jnX9 hown hK hP 55 (wd_55 y ad cap I J) rfl 42 (by decide) (hts _ fl_X9_81) (fun _ h9 => h9) rfl dX9_at_101 ?_
                          refine lv_iload_n hx hb dX9_at_104 rfl (lv_at hl 2 rfl) ?_
                          refine va_lald (D := D) hx hb hK hP 79 1 (wd_79 y ad cap I J) rfl (vp_in_nI (by omega) (by omega)) dX9_at_105 ?_
                          rw [nI_clamp (n := k) (by omega)]
                          refine lv_topl (fun v105 ev105 => ?_)
                          obtain rfl : v105 = (lN (plc TL M k)) := by
                            rw [ev105]; exact hA.2.2.2.1 _ (by omega)
                          refine lv_aload_n hx hb dX9_at_106 rfl (lv_at hl 0 rfl) ?_
                          refine va_get (D := D) (T := TX9) (N := 51) hx hb hts jnX9 hown hK hP 55 (wd_55 y ad cap I J) rfl 40 (by decide) (hts _ fl_X9_202) (fun _ h9 => h9) rfl dX9_at_107 ?_
                          refine lv_topi (fun v107 ev107 => ?_)
                          obtain rfl : v107 = (nI (TL 0 5)) := by
                            rw [ev107]; exact m40
                          refine lv_i2l (v := lN (TL 0 5)) hx hb dX9_at_110 (nI_l (by omega)) ?_
                          refine lv_ladd hx hb dX9_at_111 ?_
                          refine lv_topl (fun v111 ev111 => ?_)
                          obtain rfl : v111 = (lN ((plc TL M k) + (TL 0 5))) := by rw [ev111, lN_add]
                          refine W.lcmp hx hb dX9_at_112 ?_
                          refine lv_if_ge (tgt := 122) hx hb dX9_at_113 (by decide) (fun c113 => ?_) (fun c113 => ?_)
                          · skip
                            have c113 := lc_ge.mp c113
                            try rw [← Int64.not_lt] at c113
                            refine lv_iinc (v := (nI (k + 1))) (lv' := [(3, .int (nI (k + 1))), (0, .ref (ad 55)), (1, .long x0)]) hx hb dX9_at_122 hl (k := 2) rfl (nI_1 _) (by decide) rfl (fun ls hl => ?_)
                            refine lv_goto (tgt := 80) hx hb dX9_at_125 (by decide) ?_
                            exact ih80 (k + 1) (by omega) (fun j hj => by rcases Nat.lt_succ_iff_lt_or_eq.mp hj with h9 | h9; exact hT9 j h9; (rw [h9]; unfold inT; rw [decide_eq_true_iff]; exact (fun h9 => c113 h9.2))) (by omega) ls (by exact lv_sub hl [1, 2, 0] rfl)
                          · skip
                            have c113 := mt lc_ge.mpr c113
                            try rw [Int64.not_le] at c113
                            refine lv_sipush (v := 2000) hx hb dX9_at_116 (by decide) ?_
                            refine lv_iload_n hx hb dX9_at_119 rfl (lv_at hl 2 rfl) ?_
                            refine lv_iadd hx hb dX9_at_120 ?_
                            refine lv_topi (fun v120 ev120 => ?_)
                            obtain rfl : v120 = (nI (2000 + k)) := by rw [ev120, show (2000 : Int32) = nI 2000 from rfl, nI_add]
                            refine W.iret (v := (nI (2000 + k))) hx hb hr (fun t ht hW => ⟨_, rfl, ?_, ht⟩) (fun _ h => nomatch h) dX9_at_121
                            unfold atB
                            rw [if_neg (fun h9 => h9.elim c20 (fun h8 => h8 c29))]
                            rw [fst_none hS8, fst_some (k := k) (by omega) (by unfold inT; rw [decide_eq_true_iff]; exact ⟨c96, c113⟩) hT9]
                  exact loop80 (M.length + 1) 0 (by omega) (fun j hj => absurd hj (by omega)) (by omega) ls (by exact lv_sub hl [1, 2, 0] rfl)
                · skip
                  have c41 := mt (nI_leI (a := (TL 0 0)) (b := k) (by omega) (by omega)).mpr c41
                  obtain ⟨y3, y4, y5⟩ := wS k (by omega)
                  have hsa := sA_le hW0 hnM (s := k) (by omega)
                  refine lv_lload_n hx hb dX9_at_44 rfl (lv_at hl 1 rfl) ?_
                  refine lv_aload_n hx hb dX9_at_45 rfl (lv_at hl 0 rfl) ?_
                  refine va_get (D := D) (T := TX9) (N := 51) hx hb hts jnX9 hown hK hP 55 (wd_55 y ad cap I J) rfl 28 (by decide) (hts _ fl_X9_44) (fun _ h9 => h9) rfl dX9_at_46 ?_
                  refine lv_iload_n hx hb dX9_at_49 rfl (lv_at hl 2 rfl) ?_
                  refine va_lald (D := D) hx hb hK hP 67 1 (wd_67 y ad cap I J) rfl (vp_in_nI (by omega) (by omega)) dX9_at_50 ?_
                  rw [nI_clamp (n := k) (by omega)]
                  refine lv_topl (fun v50 ev50 => ?_)
                  obtain rfl : v50 = (lN (sA TL (cnt M) k)) := by
                    rw [ev50]; exact (hA.1 _ (by omega)).1
                  refine W.lcmp hx hb dX9_at_51 ?_
                  refine lv_if_lt (tgt := 72) hx hb dX9_at_52 (by decide) (fun c52 => ?_) (fun c52 => ?_)
                  · skip
                    have c52 := lc_lt.mp c52
                    try rw [← Int64.not_lt] at c52
                    refine lv_iinc (v := (nI (k + 1))) (lv' := [(3, .int (nI (k + 1))), (0, .ref (ad 55)), (1, .long x0)]) hx hb dX9_at_72 hl (k := 2) rfl (nI_1 _) (by decide) rfl (fun ls hl => ?_)
                    refine lv_goto (tgt := 36) hx hb dX9_at_75 (by decide) ?_
                    exact ih36 (k + 1) (by omega) (fun j hj => by rcases Nat.lt_succ_iff_lt_or_eq.mp hj with h9 | h9; exact hS9 j h9; (rw [h9]; unfold inS; rw [decide_eq_true_iff]; exact (fun h9 => h9.1 c52))) (by omega) ls (by exact lv_sub hl [1, 2, 0] rfl)
                  · skip
                    have c52 := mt lc_lt.mpr c52
                    refine lv_lload_n hx hb dX9_at_55 rfl (lv_at hl 1 rfl) ?_
                    refine lv_aload_n hx hb dX9_at_56 rfl (lv_at hl 0 rfl) ?_
                    refine va_get (D := D) (T := TX9) (N := 51) hx hb hts jnX9 hown hK hP 55 (wd_55 y ad cap I J) rfl 29 (by decide) (hts _ fl_X9_48) (fun _ h9 => h9) rfl dX9_at_57 ?_
                    refine lv_iload_n hx hb dX9_at_60 rfl (lv_at hl 2 rfl) ?_
                    refine va_lald (D := D) hx hb hK hP 68 1 (wd_68 y ad cap I J) rfl (vp_in_nI (by omega) (by omega)) dX9_at_61 ?_
                    rw [nI_clamp (n := k) (by omega)]
                    refine lv_topl (fun v61 ev61 => ?_)
                    obtain rfl : v61 = (lN (sA TL (cnt M) k + TL 1 k)) := by
                      rw [ev61]; exact (hA.1 _ (by omega)).2.1
                    refine W.lcmp hx hb dX9_at_62 ?_
                    refine lv_if_ge (tgt := 72) hx hb dX9_at_63 (by decide) (fun c63 => ?_) (fun c63 => ?_)
                    · skip
                      have c63 := lc_ge.mp c63
                      try rw [← Int64.not_lt] at c63
                      refine lv_iinc (v := (nI (k + 1))) (lv' := [(3, .int (nI (k + 1))), (0, .ref (ad 55)), (1, .long x0)]) hx hb dX9_at_72 hl (k := 2) rfl (nI_1 _) (by decide) rfl (fun ls hl => ?_)
                      refine lv_goto (tgt := 36) hx hb dX9_at_75 (by decide) ?_
                      exact ih36 (k + 1) (by omega) (fun j hj => by rcases Nat.lt_succ_iff_lt_or_eq.mp hj with h9 | h9; exact hS9 j h9; (rw [h9]; unfold inS; rw [decide_eq_true_iff]; exact (fun h9 => c63 h9.2))) (by omega) ls (by exact lv_sub hl [1, 2, 0] rfl)
                    · skip
                      have c63 := mt lc_ge.mpr c63
                      try rw [Int64.not_le] at c63
                      refine lv_sipush (v := 1000) hx hb dX9_at_66 (by decide) ?_
                      refine lv_iload_n hx hb dX9_at_69 rfl (lv_at hl 2 rfl) ?_
                      refine lv_iadd hx hb dX9_at_70 ?_
                      refine lv_topi (fun v70 ev70 => ?_)
                      obtain rfl : v70 = (nI (1000 + k)) := by rw [ev70, show (1000 : Int32) = nI 1000 from rfl, nI_add]
                      refine W.iret (v := (nI (1000 + k))) hx hb hr (fun t ht hW => ⟨_, rfl, ?_, ht⟩) (fun _ h => nomatch h) dX9_at_71
                      unfold atB
                      rw [if_neg (fun h9 => h9.elim c20 (fun h8 => h8 c29))]
                      rw [fst_some (k := k) (by omega) (by unfold inS; rw [decide_eq_true_iff]; exact ⟨c52, c63⟩) hS9]
            exact loop36 (TL 0 0 + 1) 0 (by omega) (fun j hj => absurd hj (by omega)) (by omega) ls (by exact lv_sub hl [1, 2, 0] rfl)
          · skip
            have c29 := mt lc_lt.mpr c29
            refine lv_iconst (v := (-1)) hx hb dX9_at_32 (by decide) ?_
            refine W.iret (v := (-1)) hx hb hr (fun t ht hW => ⟨_, rfl, ?_, ht⟩) (fun _ h => nomatch h) dX9_at_33
            first | exact (at_un ((nI_z (by omega)).mp c11) _).symm | (unfold atB; rw [if_pos (Or.inl c20)]; done) | (unfold atB; rw [if_pos (Or.inr c29)]; done)
