theorem bst_none {T : Nat → Nat → Nat} {M : List Th} {b k : Nat} (h : fnd M k (T 9 b) = none) : bst T M b (k + 1) = bst T M b k := by
  simp only [bst, amin, h, Option.filter_none]
theorem bst_nohelp {T : Nat → Nat → Nat} {M : List Th} {b k t : Nat} (h : fnd M k (T 9 b) = some t) (h2 : ¬ helpB T M b t = true) : bst T M b (k + 1) = bst T M b k := by
  simp only [bst, amin, h, Option.filter_some, h2, if_false]
  rfl
theorem bst_first {T : Nat → Nat → Nat} {M : List Th} {b k t : Nat} (h : fnd M k (T 9 b) = some t) (h2 : helpB T M b t = true) (h3 : bst T M b k = none) : bst T M b (k + 1) = some t := by
  unfold bst at h3 ⊢
  simp only [amin, h, Option.filter_some, h2, if_true, h3]
theorem bst_less {T : Nat → Nat → Nat} {M : List Th} {b k t u : Nat} (h : fnd M k (T 9 b) = some t) (h2 : helpB T M b t = true) (h3 : bst T M b k = some u) (h4 : dst (braA T (cnt M) b) (plc T M t) < dst (braA T (cnt M) b) (plc T M u)) : bst T M b (k + 1) = some t := by
  unfold bst at h3 ⊢
  simp only [amin, h, Option.filter_some, h2, if_true, h3, h4]
theorem bst_keep {T : Nat → Nat → Nat} {M : List Th} {b k t u : Nat} (h : fnd M k (T 9 b) = some t) (h2 : helpB T M b t = true) (h3 : bst T M b k = some u) (h4 : ¬ dst (braA T (cnt M) b) (plc T M t) < dst (braA T (cnt M) b) (plc T M u)) : bst T M b (k + 1) = bst T M b k := by
  unfold bst at h3 ⊢
  simp only [amin, h, Option.filter_some, h2, if_true, h3, h4, if_false]
theorem bst_lt {T : Nat → Nat → Nat} {M : List Th} {b : Nat} : ∀ k u, bst T M b k = some u → u < M.length := by
  intro k
  induction k with
  | zero =>
    intro u h
    exact absurd h (by simp [bst, amin])
  | succ k ih =>
    intro u h
    cases hf : fnd M k (T 9 b) with
    | none =>
      rw [bst_none hf] at h
      exact ih u h
    | some t =>
      by_cases h2 : helpB T M b t = true
      · cases h3 : bst T M b k with
        | none =>
          rw [bst_first hf h2 h3] at h
          cases h
          exact fnd_lt hf
        | some v =>
          by_cases h4 : dst (braA T (cnt M) b) (plc T M t) < dst (braA T (cnt M) b) (plc T M v)
          · rw [bst_less hf h2 h3 h4] at h
            cases h
            exact fnd_lt hf
          · rw [bst_keep hf h2 h3 h4] at h
            exact ih u h
      · rw [bst_nohelp hf h2] at h
        exact ih u h
theorem has_some {M F : List Th} {s l : Nat} (hlen : (M ++ F).length < 2 ^ 31) (h : ¬ oI (fnd (M ++ F) s l) < 0 ∧ ¬ nI M.length ≤ oI (fnd (M ++ F) s l)) : ∃ t, fnd M s l = some t ∧ t < M.length ∧ oI (fnd (M ++ F) s l) = nI t := by
  cases hf : fnd (M ++ F) s l with
  | none =>
    rw [hf] at h
    exact absurd (show (-1 : Int32) < 0 by decide) h.1
  | some t =>
    rw [hf] at h
    have ht := fnd_lt hf
    have h2 := h.2
    simp only [oI] at h2
    rw [List.length_append] at hlen ht
    rw [nI_leI (by omega) (by omega)] at h2
    exact ⟨t, fnd_made.mp ⟨hf, by omega⟩, by omega, rfl⟩
theorem has_none {M F : List Th} {s l : Nat} (hlen : (M ++ F).length < 2 ^ 31) (h : ¬ (¬ oI (fnd (M ++ F) s l) < 0 ∧ ¬ nI M.length ≤ oI (fnd (M ++ F) s l))) : fnd M s l = none := by
  cases hf : fnd M s l with
  | none => rfl
  | some t =>
    obtain ⟨h1, h2⟩ := fnd_made (F := F) |>.mpr hf
    rw [h1] at h
    have ht := fnd_lt h1
    rw [List.length_append] at hlen ht
    refine absurd ⟨?_, ?_⟩ h
    · exact nI_pos (by omega)
    · simp only [oI]
      rw [nI_leI (by omega) (by omega)]
      omega
theorem inB_fnd {M : List Th} {s l : Nat} : inB M s l = true ↔ ∃ t, fnd M s l = some t := by
  cases h : fnd M s l with
  | none =>
    have := fnd_none.mp h
    simp [this]
  | some t =>
    constructor
    · intro _
      exact ⟨t, rfl⟩
    · intro _
      cases h2 : inB M s l with
      | true => rfl
      | false =>
        have := fnd_none.mpr h2
        rw [h] at this
        cases this
set_option maxHeartbeats 4000000 in
set_option maxRecDepth 100000 in
theorem c_X4_labelAddress (l : Launch) (D : va_G) (y : Nat → ClassId) (ad : Nat → Nat) (cap : Nat → Nat) (I : Nat → Nat → Int32) (J : Nat → Nat → Int64) {T : Nat → Nat → Nat} {n : Nat → Nat} (hT : RT18 I T) (hW : WF T) (hn : ∀ s, n s ≤ 2400) (hJ : ∀ s, s < T 0 0 → J 35 s = lN (sA T n s) ∧ J 36 s = lN (pS T n s) ∧ J 37 s = lN (pE T n s)) {l0 : Nat} (hl0 : l0 < T 0 1) : Met l yX4_labelAddress [.code yX4_labelAddress cX4_labelAddress 2 (some .long)] ({ frames := 0, cells := 0, slots := 0, locals := 0 }) (va_Pc [.ref (ad 17), .int (nI l0)] (PR D y (Wd y ad cap I J))) (vp_Sl (fun r => r = lN (labA T n l0))) 0 0 (fun _ => False) := by
  refine Met.ofW (cc := cX4_labelAddress) (maxL := 2) (ret := (some .long)) (by decide) rfl ?_
  intro p e s m args below meth c s₁ B hml hv
  obtain ⟨rfl, hP, hO⟩ := hv
  have hx := B.exec
  have hb := B.bytes
  have hr := B.returns
  have hown : s.vm.findClass RX4 = some m.cls := findClass_of_methodNamed B.named
  have hlocks := B.notSynchronized
  have hK := hO.1
  have hts : ∀ w ∈ lw_E, w.before ([.ref (ad 17), .int (nI l0)] : List Value).toArray s = true := fun w h => hO.2 w h _
  clear B
  have hl := lv_entry ([.ref (ad 17), .int (nI l0)]) (n := 2) (Nat.le_of_ble_eq_true rfl)
  rw [lg_entry_eq]
  generalize (lg_sl ([.ref (ad 17), .int (nI l0)]) ++ List.replicate (2 - (lg_sl ([.ref (ad 17), .int (nI l0)])).length) Slot.unset).toArray = ls at hl ⊢
  have hl : lv_has ls 2 [(0, .ref (ad 17)), (1, .int (nI l0))] := hl
  have hW0 := hW
  obtain ⟨⟨w1, w2, w3, w4, w5, w6, w7⟩, wS, wL, wB, wK, wTk, wT0⟩ := hW
  obtain ⟨x1, x2⟩ := wL l0 hl0
  obtain ⟨x3, x4, x5⟩ := wS _ x1
  refine lv_aload_n hx hb dX4_labelAddress_0 rfl (lv_at hl 0 rfl) ?_
  refine va_get (D := D) (T := TX4) (N := 9) hx hb hts jnX4 hown hK hP 17 (wd_17 y ad cap I J) rfl 1 (by decide) (hts _ fl_X4_21) (fun _ h9 => h9) rfl dX4_labelAddress_1 ?_
  refine va_getN (D := D) (T := TX0) (N := 4) hx hb hts jnX0 hown hK hP 34 (wd_34 y ad cap I J) rfl 0 (by decide) (hts _ fn_X4_190) (fun _ h9 => h9) rfl dX4_labelAddress_4 ?_
  refine lv_aload_n hx hb dX4_labelAddress_7 rfl (lv_at hl 0 rfl) ?_
  refine va_get (D := D) (T := TX4) (N := 9) hx hb hts jnX4 hown hK hP 17 (wd_17 y ad cap I J) rfl 0 (by decide) (hts _ fl_X4_12) (fun _ h9 => h9) rfl dX4_labelAddress_8 ?_
  refine va_getN (D := D) (T := TX7) (N := 8) hx hb hts jnX7 hown hK hP 18 (wd_18 y ad cap I J) rfl 1 (by decide) (hts _ fn_X4_193) (fun _ h9 => h9) rfl dX4_labelAddress_11 ?_
  refine va_getN (D := D) (T := TX3) (N := 3) hx hb hts jnX3 hown hK hP 23 (wd_23 y ad cap I J) rfl 1 (by decide) (hts _ fn_X4_197) (fun _ h9 => h9) rfl dX4_labelAddress_14 ?_
  refine lv_iload_n hx hb dX4_labelAddress_17 rfl (lv_at hl 1 rfl) ?_
  refine va_iald (D := D) hx hb hK hP 24 0 (wd_24 y ad cap I J) rfl (vp_in_nI (by omega) (by omega)) dX4_labelAddress_18 ?_
  rw [nI_clamp (n := l0) (by omega)]
  refine lv_topi (fun v18 ev18 => ?_)
  obtain rfl : v18 = (nI (T 4 l0)) := by
    rw [ev18]; exact (hT.2.2.1 _ (by omega)).1
  refine va_lald (D := D) hx hb hK hP 35 1 (wd_35 y ad cap I J) rfl (vp_in_nI (by omega) (by omega)) dX4_labelAddress_19 ?_
  rw [nI_clamp (n := T 4 l0) (by omega)]
  refine lv_topl (fun v19 ev19 => ?_)
  obtain rfl : v19 = (lN (sA T n (T 4 l0))) := by
    rw [ev19]; exact (hJ _ (by omega)).1
  refine lv_aload_n hx hb dX4_labelAddress_20 rfl (lv_at hl 0 rfl) ?_
  refine va_get (D := D) (T := TX4) (N := 9) hx hb hts jnX4 hown hK hP 17 (wd_17 y ad cap I J) rfl 0 (by decide) (hts _ fl_X4_12) (fun _ h9 => h9) rfl dX4_labelAddress_21 ?_
  refine va_getN (D := D) (T := TX7) (N := 8) hx hb hts jnX7 hown hK hP 18 (wd_18 y ad cap I J) rfl 1 (by decide) (hts _ fn_X4_193) (fun _ h9 => h9) rfl dX4_labelAddress_24 ?_
  refine va_getN (D := D) (T := TX3) (N := 3) hx hb hts jnX3 hown hK hP 23 (wd_23 y ad cap I J) rfl 2 (by decide) (hts _ fn_X4_201) (fun _ h9 => h9) rfl dX4_labelAddress_27 ?_
  refine lv_iload_n hx hb dX4_labelAddress_30 rfl (lv_at hl 1 rfl) ?_
  refine va_iald (D := D) hx hb hK hP 25 0 (wd_25 y ad cap I J) rfl (vp_in_nI (by omega) (by omega)) dX4_labelAddress_31 ?_
  rw [nI_clamp (n := l0) (by omega)]
  refine lv_topi (fun v31 ev31 => ?_)
  obtain rfl : v31 = (nI (T 5 l0)) := by
    rw [ev31]; exact (hT.2.2.1 _ (by omega)).2
  refine lv_i2l (v := lN (T 5 l0)) hx hb dX4_labelAddress_32 (nI_l (by omega)) ?_
  refine lv_ladd hx hb dX4_labelAddress_33 ?_
  refine lv_topl (fun v33 ev33 => ?_)
  obtain rfl : v33 = (lN ((sA T n (T 4 l0)) + (T 5 l0))) := by rw [ev33, lN_add]
  refine W.lret (v := (lN ((sA T n (T 4 l0)) + (T 5 l0)))) hx hb hr (fun t ht hW => ⟨_, rfl, ?_, ht⟩) (fun _ h => nomatch h) dX4_labelAddress_34
  rfl
set_option maxHeartbeats 4000000 in
set_option maxRecDepth 100000 in
theorem c_X4_branchAddress (l : Launch) (D : va_G) (y : Nat → ClassId) (ad : Nat → Nat) (cap : Nat → Nat) (I : Nat → Nat → Int32) (J : Nat → Nat → Int64) {T : Nat → Nat → Nat} {n : Nat → Nat} (hT : RT18 I T) (hW : WF T) (hn : ∀ s, n s ≤ 2400) (hJ : ∀ s, s < T 0 0 → J 35 s = lN (sA T n s) ∧ J 36 s = lN (pS T n s) ∧ J 37 s = lN (pE T n s)) {b0 : Nat} (hb0 : b0 < T 0 2) : Met l yX4_branchAddress [.code yX4_branchAddress cX4_branchAddress 2 (some .long)] ({ frames := 0, cells := 0, slots := 0, locals := 0 }) (va_Pc [.ref (ad 17), .int (nI b0)] (PR D y (Wd y ad cap I J))) (vp_Sl (fun r => r = lN (braA T n b0))) 0 0 (fun _ => False) := by
  refine Met.ofW (cc := cX4_branchAddress) (maxL := 2) (ret := (some .long)) (by decide) rfl ?_
  intro p e s m args below meth c s₁ B hml hv
  obtain ⟨rfl, hP, hO⟩ := hv
  have hx := B.exec
  have hb := B.bytes
  have hr := B.returns
  have hown : s.vm.findClass RX4 = some m.cls := findClass_of_methodNamed B.named
  have hlocks := B.notSynchronized
  have hK := hO.1
  have hts : ∀ w ∈ lw_E, w.before ([.ref (ad 17), .int (nI b0)] : List Value).toArray s = true := fun w h => hO.2 w h _
  clear B
  have hl := lv_entry ([.ref (ad 17), .int (nI b0)]) (n := 2) (Nat.le_of_ble_eq_true rfl)
  rw [lg_entry_eq]
  generalize (lg_sl ([.ref (ad 17), .int (nI b0)]) ++ List.replicate (2 - (lg_sl ([.ref (ad 17), .int (nI b0)])).length) Slot.unset).toArray = ls at hl ⊢
  have hl : lv_has ls 2 [(0, .ref (ad 17)), (1, .int (nI b0))] := hl
  have hW0 := hW
  obtain ⟨⟨w1, w2, w3, w4, w5, w6, w7⟩, wS, wL, wB, wK, wTk, wT0⟩ := hW
  obtain ⟨x1, x2, x6, x7, x8⟩ := wB b0 hb0
  obtain ⟨x3, x4, x5⟩ := wS _ x1
  refine lv_aload_n hx hb dX4_branchAddress_0 rfl (lv_at hl 0 rfl) ?_
  refine va_get (D := D) (T := TX4) (N := 9) hx hb hts jnX4 hown hK hP 17 (wd_17 y ad cap I J) rfl 1 (by decide) (hts _ fl_X4_21) (fun _ h9 => h9) rfl dX4_branchAddress_1 ?_
  refine va_getN (D := D) (T := TX0) (N := 4) hx hb hts jnX0 hown hK hP 34 (wd_34 y ad cap I J) rfl 0 (by decide) (hts _ fn_X4_190) (fun _ h9 => h9) rfl dX4_branchAddress_4 ?_
  refine lv_aload_n hx hb dX4_branchAddress_7 rfl (lv_at hl 0 rfl) ?_
  refine va_get (D := D) (T := TX4) (N := 9) hx hb hts jnX4 hown hK hP 17 (wd_17 y ad cap I J) rfl 0 (by decide) (hts _ fl_X4_12) (fun _ h9 => h9) rfl dX4_branchAddress_8 ?_
  refine va_getN (D := D) (T := TX7) (N := 8) hx hb hts jnX7 hown hK hP 18 (wd_18 y ad cap I J) rfl 3 (by decide) (hts _ fn_X4_85) (fun _ h9 => h9) rfl dX4_branchAddress_11 ?_
  refine va_getN (D := D) (T := TX1) (N := 5) hx hb hts jnX1 hown hK hP 29 (wd_29 y ad cap I J) rfl 1 (by decide) (hts _ fn_X4_204) (fun _ h9 => h9) rfl dX4_branchAddress_14 ?_
  refine lv_iload_n hx hb dX4_branchAddress_17 rfl (lv_at hl 1 rfl) ?_
  refine va_iald (D := D) hx hb hK hP 30 0 (wd_30 y ad cap I J) rfl (vp_in_nI (by omega) (by omega)) dX4_branchAddress_18 ?_
  rw [nI_clamp (n := b0) (by omega)]
  refine lv_topi (fun v18 ev18 => ?_)
  obtain rfl : v18 = (nI (T 6 b0)) := by
    rw [ev18]; exact (hT.2.2.2.1 _ (by omega)).1
  refine va_lald (D := D) hx hb hK hP 35 1 (wd_35 y ad cap I J) rfl (vp_in_nI (by omega) (by omega)) dX4_branchAddress_19 ?_
  rw [nI_clamp (n := T 6 b0) (by omega)]
  refine lv_topl (fun v19 ev19 => ?_)
  obtain rfl : v19 = (lN (sA T n (T 6 b0))) := by
    rw [ev19]; exact (hJ _ (by omega)).1
  refine lv_aload_n hx hb dX4_branchAddress_20 rfl (lv_at hl 0 rfl) ?_
  refine va_get (D := D) (T := TX4) (N := 9) hx hb hts jnX4 hown hK hP 17 (wd_17 y ad cap I J) rfl 0 (by decide) (hts _ fl_X4_12) (fun _ h9 => h9) rfl dX4_branchAddress_21 ?_
  refine va_getN (D := D) (T := TX7) (N := 8) hx hb hts jnX7 hown hK hP 18 (wd_18 y ad cap I J) rfl 3 (by decide) (hts _ fn_X4_85) (fun _ h9 => h9) rfl dX4_branchAddress_24 ?_
  refine va_getN (D := D) (T := TX1) (N := 5) hx hb hts jnX1 hown hK hP 29 (wd_29 y ad cap I J) rfl 2 (by decide) (hts _ fn_X4_205) (fun _ h9 => h9) rfl dX4_branchAddress_27 ?_
  refine lv_iload_n hx hb dX4_branchAddress_30 rfl (lv_at hl 1 rfl) ?_
  refine va_iald (D := D) hx hb hK hP 31 0 (wd_31 y ad cap I J) rfl (vp_in_nI (by omega) (by omega)) dX4_branchAddress_31 ?_
  rw [nI_clamp (n := b0) (by omega)]
  refine lv_topi (fun v31 ev31 => ?_)
  obtain rfl : v31 = (nI (T 7 b0)) := by
    rw [ev31]; exact (hT.2.2.2.1 _ (by omega)).2.1
  refine lv_i2l (v := lN (T 7 b0)) hx hb dX4_branchAddress_32 (nI_l (by omega)) ?_
  refine lv_ladd hx hb dX4_branchAddress_33 ?_
  refine lv_topl (fun v33 ev33 => ?_)
  obtain rfl : v33 = (lN ((sA T n (T 6 b0)) + (T 7 b0))) := by rw [ev33, lN_add]
  refine W.lret (v := (lN ((sA T n (T 6 b0)) + (T 7 b0)))) hx hb hr (fun t ht hW => ⟨_, rfl, ?_, ht⟩) (fun _ h => nomatch h) dX4_branchAddress_34
  rfl
set_option maxHeartbeats 4000000 in
set_option maxRecDepth 100000 in
theorem c_X4_isDirect (l : Launch) (D : va_G) (y : Nat → ClassId) (ad : Nat → Nat) (cap : Nat → Nat) (I : Nat → Nat → Int32) (J : Nat → Nat → Int64) {T : Nat → Nat → Nat} {n : Nat → Nat} (hT : RT18 I T) (hW : WF T) (hn : ∀ s, n s ≤ 2400) (hJ : ∀ s, s < T 0 0 → J 35 s = lN (sA T n s) ∧ J 36 s = lN (pS T n s) ∧ J 37 s = lN (pE T n s)) {b0 : Nat} (hb0 : b0 < T 0 2) : Met l yX4_isDirect [.code yX4_isDirect cX4_isDirect 4 (some .boolean)] ({ frames := 2, cells := 0, slots := 0, locals := 52 }) (va_Pc [.ref (ad 17), .int (nI b0)] (PR D y (Wd y ad cap I J))) (vp_Si (fun r => r = if dirB T n b0 = true then 1 else 0)) 0 0 (fun _ => False) := by
  refine Met.ofW (cc := cX4_isDirect) (maxL := 4) (ret := (some .boolean)) (by decide) rfl ?_
  intro p e s m args below meth c s₁ B hml hv
  obtain ⟨rfl, hP, hO⟩ := hv
  have hx := B.exec
  have hb := B.bytes
  have hr := B.returns
  have hown : s.vm.findClass RX4 = some m.cls := findClass_of_methodNamed B.named
  have hlocks := B.notSynchronized
  have hK := hO.1
  have hts : ∀ w ∈ lw_E, w.before ([.ref (ad 17), .int (nI b0)] : List Value).toArray s = true := fun w h => hO.2 w h _
  clear B
  have hl := lv_entry ([.ref (ad 17), .int (nI b0)]) (n := 4) (Nat.le_of_ble_eq_true rfl)
  rw [lg_entry_eq]
  generalize (lg_sl ([.ref (ad 17), .int (nI b0)]) ++ List.replicate (4 - (lg_sl ([.ref (ad 17), .int (nI b0)])).length) Slot.unset).toArray = ls at hl ⊢
  have hl : lv_has ls 4 [(0, .ref (ad 17)), (1, .int (nI b0))] := hl
  have hW0 := hW
  obtain ⟨⟨w1, w2, w3, w4, w5, w6, w7⟩, wS, wL, wB, wK, wTk, wT0⟩ := hW
  obtain ⟨x1, x2, x6, x7, x8⟩ := wB b0 hb0
  obtain ⟨x3, x4, x5⟩ := wS _ x1
  refine lv_aload_n hx hb dX4_isDirect_0 rfl (lv_at hl 0 rfl) ?_
  refine lv_aload_n hx hb dX4_isDirect_1 rfl (lv_at hl 0 rfl) ?_
  refine va_get (D := D) (T := TX4) (N := 9) hx hb hts jnX4 hown hK hP 17 (wd_17 y ad cap I J) rfl 0 (by decide) (hts _ fl_X4_12) (fun _ h9 => h9) rfl dX4_isDirect_2 ?_
  refine va_getN (D := D) (T := TX7) (N := 8) hx hb hts jnX7 hown hK hP 18 (wd_18 y ad cap I J) rfl 3 (by decide) (hts _ fn_X4_85) (fun _ h9 => h9) rfl dX4_isDirect_5 ?_
  refine va_getN (D := D) (T := TX1) (N := 5) hx hb hts jnX1 hown hK hP 29 (wd_29 y ad cap I J) rfl 4 (by decide) (hts _ fn_X4_108) (fun _ h9 => h9) rfl dX4_isDirect_8 ?_
  refine lv_iload_n hx hb dX4_isDirect_11 rfl (lv_at hl 1 rfl) ?_
  refine va_iald (D := D) hx hb hK hP 33 0 (wd_33 y ad cap I J) rfl (vp_in_nI (by omega) (by omega)) dX4_isDirect_12 ?_
  rw [nI_clamp (n := b0) (by omega)]
  refine lv_topi (fun v12 ev12 => ?_)
  obtain rfl : v12 = (nI (T 9 b0)) := by
    rw [ev12]; exact (hT.2.2.2.1 _ (by omega)).2.2.2
  refine rk_l (run_v (As := [.int (nI (T 9 b0))]) (rest := []) (b := (ad 17)) hx hb hml hown hO.2 (c_X4_labelAddress l D y ad cap I J hT hW0 hn hJ (l0 := T 9 b0) x8) k_X4_labelAddress ml_X4_166 ⟨rfl, rfl⟩ ⟨Nat.le_of_ble_eq_true rfl, Nat.le_of_ble_eq_true rfl⟩ (pre_VR hO hP (wd_17 y ad cap I J) rfl) rfl hl.1 rfl (Nat.le_of_ble_eq_true rfl) dX4_isDirect_13 ⟨(Nat.zero_le _), (Nat.zero_le _)⟩) (fun r13 er13 => ?_)
  try dsimp only at er13
  obtain rfl : r13 = (lN (labA T n (T 9 b0))) := by
    exact er13
  refine lv_lstore_n (lv' := [(2, .long (lN (labA T n (T 9 b0)))), (0, .ref (ad 17)), (1, .int (nI b0))]) hx hb dX4_isDirect_16 rfl hl (by decide) rfl (fun ls hl => ?_)
  refine lv_aload_n hx hb dX4_isDirect_17 rfl (lv_at hl 1 rfl) ?_
  refine va_get (D := D) (T := TX4) (N := 9) hx hb hts jnX4 hown hK hP 17 (wd_17 y ad cap I J) rfl 0 (by decide) (hts _ fl_X4_12) (fun _ h9 => h9) rfl dX4_isDirect_18 ?_
  refine va_getN (D := D) (T := TX7) (N := 8) hx hb hts jnX7 hown hK hP 18 (wd_18 y ad cap I J) rfl 2 (by decide) (hts _ fn_X4_150) (fun _ h9 => h9) rfl dX4_isDirect_21 ?_
  refine lv_aload_n hx hb dX4_isDirect_24 rfl (lv_at hl 1 rfl) ?_
  refine va_get (D := D) (T := TX4) (N := 9) hx hb hts jnX4 hown hK hP 17 (wd_17 y ad cap I J) rfl 0 (by decide) (hts _ fl_X4_12) (fun _ h9 => h9) rfl dX4_isDirect_25 ?_
  refine va_getN (D := D) (T := TX7) (N := 8) hx hb hts jnX7 hown hK hP 18 (wd_18 y ad cap I J) rfl 3 (by decide) (hts _ fn_X4_85) (fun _ h9 => h9) rfl dX4_isDirect_28 ?_
  refine va_getN (D := D) (T := TX1) (N := 5) hx hb hts jnX1 hown hK hP 29 (wd_29 y ad cap I J) rfl 3 (by decide) (hts _ fn_X4_154) (fun _ h9 => h9) rfl dX4_isDirect_31 ?_
  refine lv_iload_n hx hb dX4_isDirect_34 rfl (lv_at hl 2 rfl) ?_
  refine va_iald (D := D) hx hb hK hP 32 0 (wd_32 y ad cap I J) rfl (vp_in_nI (by omega) (by omega)) dX4_isDirect_35 ?_
  rw [nI_clamp (n := b0) (by omega)]
  refine lv_topi (fun v35 ev35 => ?_)
  obtain rfl : v35 = (nI (T 8 b0)) := by
    rw [ev35]; exact (hT.2.2.2.1 _ (by omega)).2.2.1
  refine lv_aload_n hx hb dX4_isDirect_36 rfl (lv_at hl 1 rfl) ?_
  refine lv_iload_n hx hb dX4_isDirect_37 rfl (lv_at hl 2 rfl) ?_
  refine rk_l (run_v (As := [.int (nI b0)]) (rest := [.int (nI (T 8 b0)), .ref (ad 26)]) (b := (ad 17)) hx hb hml hown hO.2 (c_X4_branchAddress l D y ad cap I J hT hW0 hn hJ (b0 := b0) hb0) k_X4_branchAddress ml_X4_111 ⟨rfl, rfl⟩ ⟨Nat.le_of_ble_eq_true rfl, Nat.le_of_ble_eq_true rfl⟩ (pre_VR hO hP (wd_17 y ad cap I J) rfl) rfl hl.1 rfl (Nat.le_of_ble_eq_true rfl) dX4_isDirect_38 ⟨(Nat.zero_le _), (Nat.zero_le _)⟩) (fun r38 er38 => ?_)
  try dsimp only at er38
  obtain rfl : r38 = (lN (braA T n b0)) := by
    exact er38
  refine lv_lload_n hx hb dX4_isDirect_41 rfl (lv_at hl 0 rfl) ?_
  refine rk_i (run_vn (As := [.int (nI (T 8 b0)), .long (lN (braA T n b0)), .long (lN (labA T n (T 9 b0)))]) (rest := []) (b := (ad 26)) hx hb hml hown hO.2 (c_X2_reaches l D y (wd_26 y ad cap I J) (wd_27 y ad cap I J) (wd_28 y ad cap I J) (k0 := T 8 b0) x6 (hT.2.2.2.2 _ x6).1 (hT.2.2.2.2 _ x6).2 (wK _ x6).1 x7 (wK _ x6).2 (by have := braA_le hW0 hn hb0; omega) (by have := labA_le hW0 hn x8; omega)) k_X2_reaches mn_X4_157 ⟨rfl, rfl⟩ ⟨Nat.le_of_ble_eq_true rfl, Nat.le_of_ble_eq_true rfl⟩ (pre_VR hO hP (wd_26 y ad cap I J) rfl) rfl hl.1 rfl (Nat.le_of_ble_eq_true rfl) dX4_isDirect_42 ⟨(Nat.zero_le _), (Nat.zero_le _)⟩) (fun r42 er42 => ?_)
  try dsimp only at er42
  refine W.zret (v := r42) hx hb hr (if01_narrow er42) (fun t ht hW => ⟨_, rfl, ?_, ht⟩) (fun _ h => nomatch h) dX4_isDirect_45
  exact er42
theorem TW_left {T : Nat → Nat → Nat} {M F : List Th} (h : TW T (M ++ F)) : TW T M := by
  refine ⟨fun t ht => ?_, fun t u ht hu h1 h2 => ?_⟩
  · have := h.1 t (by rw [List.length_append]; omega)
    rw [thA_app ht] at this
    exact this
  · apply h.2 t u (by rw [List.length_append]; omega) (by rw [List.length_append]; omega)
    · rw [thA_app ht, thA_app hu]
      exact h1
    · rw [thA_app ht, thA_app hu]
      exact h2
set_option maxHeartbeats 4000000 in
set_option maxRecDepth 100000 in
theorem c_X4_doesHelp (l : Launch) (D : va_G) (y : Nat → ClassId) (ad : Nat → Nat) (cap : Nat → Nat) (I : Nat → Nat → Int32) (J : Nat → Nat → Int64) {T : Nat → Nat → Nat} {M F : List Th} (hT : RT18 I T) (hW : WF T) (hM : (M ++ F).length ≤ 2400) (hTW : TW T (M ++ F)) (hJ : ∀ s, s < T 0 0 → J 35 s = lN (sA T (cnt M) s) ∧ J 36 s = lN (pS T (cnt M) s) ∧ J 37 s = lN (pE T (cnt M) s)) (hTH : TH I J T (cap 0) M F) (hPL : PL J T M) (htz : 0 < T 0 5) {t0 b0 : Nat} (ht0 : t0 < M.length) (hb0 : b0 < T 0 2) : Met l yX4_doesHelp [.code yX4_doesHelp cX4_doesHelp 5 (some .boolean)] ({ frames := 2, cells := 0, slots := 0, locals := 52 }) (va_Pc [.ref (ad 17), .int (nI t0), .int (nI b0)] (PR D y (Wd y ad cap I J))) (vp_Si (fun r => r = if helpB T M b0 t0 = true then 1 else 0)) 0 0 (fun _ => False) := by
  refine Met.ofW (cc := cX4_doesHelp) (maxL := 5) (ret := (some .boolean)) (by decide) rfl ?_
  intro p e s m args below meth c s₁ B hml hv
  obtain ⟨rfl, hP, hO⟩ := hv
  have hx := B.exec
  have hb := B.bytes
  have hr := B.returns
  have hown : s.vm.findClass RX4 = some m.cls := findClass_of_methodNamed B.named
  have hlocks := B.notSynchronized
  have hK := hO.1
  have hts : ∀ w ∈ lw_E, w.before ([.ref (ad 17), .int (nI t0), .int (nI b0)] : List Value).toArray s = true := fun w h => hO.2 w h _
  clear B
  have hl := lv_entry ([.ref (ad 17), .int (nI t0), .int (nI b0)]) (n := 5) (Nat.le_of_ble_eq_true rfl)
  rw [lg_entry_eq]
  generalize (lg_sl ([.ref (ad 17), .int (nI t0), .int (nI b0)]) ++ List.replicate (5 - (lg_sl ([.ref (ad 17), .int (nI t0), .int (nI b0)])).length) Slot.unset).toArray = ls at hl ⊢
  have hl : lv_has ls 5 [(0, .ref (ad 17)), (1, .int (nI t0)), (2, .int (nI b0))] := hl
  have hW0 := hW
  obtain ⟨⟨w1, w2, w3, w4, w5, w6, w7⟩, wS, wL, wB, wK, wTk, wT0⟩ := hW
  obtain ⟨x1, x2, x6, x7, x8⟩ := wB b0 hb0
  obtain ⟨x3, x4, x5⟩ := wS _ x1
  have hnM : ∀ s, cnt M s ≤ 2400 := fun s => by have := cnt_le M s; rw [List.length_append] at hM; omega
  have hlen := hM
  rw [List.length_append] at hlen
  obtain ⟨t1, t2, t3, t4⟩ := hTW.1 t0 (by rw [List.length_append]; omega)
  have hTM : TW T M := TW_left hTW
  have hpl := plc_le hW0 (by omega) hTM ht0
  refine lv_aload_n hx hb dX4_doesHelp_0 rfl (lv_at hl 0 rfl) ?_
  refine va_get (D := D) (T := TX4) (N := 9) hx hb hts jnX4 hown hK hP 17 (wd_17 y ad cap I J) rfl 2 (by decide) (hts _ fl_X4_28) (fun _ h9 => h9) rfl dX4_doesHelp_1 ?_
  refine va_getN (D := D) (T := TX6) (N := 11) hx hb hts jnX6 hown hK hP 38 (wd_38 y ad cap I J) rfl 8 (by decide) (hts _ fn_X4_179) (fun _ h9 => h9) rfl dX4_doesHelp_4 ?_
  refine lv_iload_n hx hb dX4_doesHelp_7 rfl (lv_at hl 1 rfl) ?_
  refine va_lald (D := D) hx hb hK hP 45 1 (wd_45 y ad cap I J) rfl (vp_in_nI (by have := hTH.1.2.2.1; rw [List.length_append] at this; omega) (by have := hTH.1.2.2.2; omega)) dX4_doesHelp_8 ?_
  rw [nI_clamp (n := t0) (by omega)]
  refine lv_topl (fun v8 ev8 => ?_)
  obtain rfl : v8 = (lN (plc T M t0)) := by
    rw [ev8]; exact hPL _ (by omega)
  refine lv_lstore_n (lv' := [(3, .long (lN (plc T M t0))), (0, .ref (ad 17)), (1, .int (nI t0)), (2, .int (nI b0))]) hx hb dX4_doesHelp_9 rfl hl (by decide) rfl (fun ls hl => ?_)
  refine lv_aload_n hx hb dX4_doesHelp_10 rfl (lv_at hl 1 rfl) ?_
  refine va_get (D := D) (T := TX4) (N := 9) hx hb hts jnX4 hown hK hP 17 (wd_17 y ad cap I J) rfl 0 (by decide) (hts _ fl_X4_12) (fun _ h9 => h9) rfl dX4_doesHelp_11 ?_
  refine va_getN (D := D) (T := TX7) (N := 8) hx hb hts jnX7 hown hK hP 18 (wd_18 y ad cap I J) rfl 2 (by decide) (hts _ fn_X4_150) (fun _ h9 => h9) rfl dX4_doesHelp_14 ?_
  refine lv_aload_n hx hb dX4_doesHelp_17 rfl (lv_at hl 1 rfl) ?_
  refine va_get (D := D) (T := TX4) (N := 9) hx hb hts jnX4 hown hK hP 17 (wd_17 y ad cap I J) rfl 0 (by decide) (hts _ fl_X4_12) (fun _ h9 => h9) rfl dX4_doesHelp_18 ?_
  refine va_getN (D := D) (T := TX7) (N := 8) hx hb hts jnX7 hown hK hP 18 (wd_18 y ad cap I J) rfl 3 (by decide) (hts _ fn_X4_85) (fun _ h9 => h9) rfl dX4_doesHelp_21 ?_
  refine va_getN (D := D) (T := TX1) (N := 5) hx hb hts jnX1 hown hK hP 29 (wd_29 y ad cap I J) rfl 3 (by decide) (hts _ fn_X4_154) (fun _ h9 => h9) rfl dX4_doesHelp_24 ?_
  refine lv_iload_n hx hb dX4_doesHelp_27 rfl (lv_at hl 3 rfl) ?_
  refine va_iald (D := D) hx hb hK hP 32 0 (wd_32 y ad cap I J) rfl (vp_in_nI (by omega) (by omega)) dX4_doesHelp_28 ?_
  rw [nI_clamp (n := b0) (by omega)]
  refine lv_topi (fun v28 ev28 => ?_)
  obtain rfl : v28 = (nI (T 8 b0)) := by
    rw [ev28]; exact (hT.2.2.2.1 _ (by omega)).2.2.1
  refine lv_aload_n hx hb dX4_doesHelp_29 rfl (lv_at hl 1 rfl) ?_
  refine lv_iload_n hx hb dX4_doesHelp_30 rfl (lv_at hl 3 rfl) ?_
  refine rk_l (run_v (As := [.int (nI b0)]) (rest := [.int (nI (T 8 b0)), .ref (ad 26)]) (b := (ad 17)) hx hb hml hown hO.2 (c_X4_branchAddress l D y ad cap I J hT hW0 hnM hJ (b0 := b0) hb0) k_X4_branchAddress ml_X4_111 ⟨rfl, rfl⟩ ⟨Nat.le_of_ble_eq_true rfl, Nat.le_of_ble_eq_true rfl⟩ (pre_VR hO hP (wd_17 y ad cap I J) rfl) rfl hl.1 rfl (Nat.le_of_ble_eq_true rfl) dX4_doesHelp_31 ⟨(Nat.zero_le _), (Nat.zero_le _)⟩) (fun r31 er31 => ?_)
  try dsimp only at er31
  obtain rfl : r31 = (lN (braA T (cnt M) b0)) := by
    exact er31
  refine lv_lload_n hx hb dX4_doesHelp_34 rfl (lv_at hl 0 rfl) ?_
  refine rk_i (run_vn (As := [.int (nI (T 8 b0)), .long (lN (braA T (cnt M) b0)), .long (lN (plc T M t0))]) (rest := []) (b := (ad 26)) hx hb hml hown hO.2 (c_X2_reaches l D y (wd_26 y ad cap I J) (wd_27 y ad cap I J) (wd_28 y ad cap I J) (k0 := T 8 b0) x6 (hT.2.2.2.2 _ x6).1 (hT.2.2.2.2 _ x6).2 (wK _ x6).1 x7 (wK _ x6).2 (by have := braA_le hW0 hnM hb0; omega) (by omega)) k_X2_reaches mn_X4_157 ⟨rfl, rfl⟩ ⟨Nat.le_of_ble_eq_true rfl, Nat.le_of_ble_eq_true rfl⟩ (pre_VR hO hP (wd_26 y ad cap I J) rfl) rfl hl.1 rfl (Nat.le_of_ble_eq_true rfl) dX4_doesHelp_35 ⟨(Nat.zero_le _), (Nat.zero_le _)⟩) (fun r35 er35 => ?_)
  try dsimp only at er35
  refine lv_if_eq (tgt := 79) hx hb dX4_doesHelp_38 (by decide) (fun c38 => ?_) (fun c38 => ?_)
  · skip
    have c38 := if01_z er35 c38
    refine lv_iconst (v := 0) hx hb dX4_doesHelp_79 (by decide) ?_
    refine W.zret (v := 0) hx hb hr (by decide) (fun t ht hW => ⟨_, rfl, ?_, ht⟩) (fun _ h => nomatch h) dX4_doesHelp_80
    first | (rw [e9] at c72; simp only [helpB]; simp [c38, c72]; done) | (simp only [helpB]; simp [c38]; done)
  · skip
    have c38 := if01_n er35 c38
    have e9 := thA_app (F := F) ht0
    refine lv_aload_n hx hb dX4_doesHelp_41 rfl (lv_at hl 1 rfl) ?_
    refine va_get (D := D) (T := TX4) (N := 9) hx hb hts jnX4 hown hK hP 17 (wd_17 y ad cap I J) rfl 0 (by decide) (hts _ fl_X4_12) (fun _ h9 => h9) rfl dX4_doesHelp_42 ?_
    refine va_getN (D := D) (T := TX7) (N := 8) hx hb hts jnX7 hown hK hP 18 (wd_18 y ad cap I J) rfl 2 (by decide) (hts _ fn_X4_150) (fun _ h9 => h9) rfl dX4_doesHelp_45 ?_
    refine lv_aload_n hx hb dX4_doesHelp_48 rfl (lv_at hl 1 rfl) ?_
    refine va_get (D := D) (T := TX4) (N := 9) hx hb hts jnX4 hown hK hP 17 (wd_17 y ad cap I J) rfl 0 (by decide) (hts _ fl_X4_12) (fun _ h9 => h9) rfl dX4_doesHelp_49 ?_
    refine va_getN (D := D) (T := TX7) (N := 8) hx hb hts jnX7 hown hK hP 18 (wd_18 y ad cap I J) rfl 7 (by decide) (hts _ fn_X4_163) (fun _ h9 => h9) rfl dX4_doesHelp_52 ?_
    refine lv_topi (fun v52 ev52 => ?_)
    obtain rfl : v52 = (nI (T 0 7)) := by
      rw [ev52]; exact hT.1.2.2.2.2.2.2.2 htz
    refine lv_lload_n hx hb dX4_doesHelp_55 rfl (lv_at hl 0 rfl) ?_
    refine lv_aload_n hx hb dX4_doesHelp_56 rfl (lv_at hl 1 rfl) ?_
    refine lv_aload_n hx hb dX4_doesHelp_57 rfl (lv_at hl 1 rfl) ?_
    refine va_get (D := D) (T := TX4) (N := 9) hx hb hts jnX4 hown hK hP 17 (wd_17 y ad cap I J) rfl 2 (by decide) (hts _ fl_X4_28) (fun _ h9 => h9) rfl dX4_doesHelp_58 ?_
    refine va_getN (D := D) (T := TX6) (N := 11) hx hb hts jnX6 hown hK hP 38 (wd_38 y ad cap I J) rfl 3 (by decide) (hts _ fn_X4_182) (fun _ h9 => h9) rfl dX4_doesHelp_61 ?_
    refine lv_iload_n hx hb dX4_doesHelp_64 rfl (lv_at hl 2 rfl) ?_
    refine va_iald (D := D) hx hb hK hP 40 0 (wd_40 y ad cap I J) rfl (vp_in_nI (by have := hTH.1.2.2.1; rw [List.length_append] at this; omega) (by have := hTH.1.2.2.2; omega)) dX4_doesHelp_65 ?_
    rw [nI_clamp (n := t0) (by omega)]
    refine lv_topi (fun v65 ev65 => ?_)
    obtain rfl : v65 = (nI ((thA (M ++ F) t0).2.1)) := by
      rw [ev65]; exact (hTH.2.1 _ (by simp only [List.length_append]; omega)).2.1
    refine rk_l (run_v (As := [.int (nI ((thA (M ++ F) t0).2.1))]) (rest := [.long (lN (plc T M t0)), .int (nI (T 0 7)), .ref (ad 26)]) (b := (ad 17)) hx hb hml hown hO.2 (c_X4_labelAddress l D y ad cap I J hT hW0 hnM hJ (l0 := (thA (M ++ F) t0).2.1) t2) k_X4_labelAddress ml_X4_166 ⟨rfl, rfl⟩ ⟨Nat.le_of_ble_eq_true rfl, Nat.le_of_ble_eq_true rfl⟩ (pre_VR hO hP (wd_17 y ad cap I J) rfl) rfl hl.1 rfl (Nat.le_of_ble_eq_true rfl) dX4_doesHelp_66 ⟨(Nat.zero_le _), (Nat.zero_le _)⟩) (fun r66 er66 => ?_)
    try dsimp only at er66
    obtain rfl : r66 = (lN (labA T (cnt M) ((thA (M ++ F) t0).2.1))) := by
      exact er66
    refine rk_i (run_vn (As := [.int (nI (T 0 7)), .long (lN (plc T M t0)), .long (lN (labA T (cnt M) ((thA (M ++ F) t0).2.1)))]) (rest := []) (b := (ad 26)) hx hb hml hown hO.2 (c_X2_reaches l D y (wd_26 y ad cap I J) (wd_27 y ad cap I J) (wd_28 y ad cap I J) (k0 := T 0 7) (wTk htz).1 (hT.2.2.2.2 _ (wTk htz).1).1 (hT.2.2.2.2 _ (wTk htz).1).2 (wK _ (wTk htz).1).1 (wTk htz).2 (wK _ (wTk htz).1).2 (by omega) (by have := labA_le hW0 hnM t2; omega)) k_X2_reaches mn_X4_157 ⟨rfl, rfl⟩ ⟨Nat.le_of_ble_eq_true rfl, Nat.le_of_ble_eq_true rfl⟩ (pre_VR hO hP (wd_26 y ad cap I J) rfl) rfl hl.1 rfl (Nat.le_of_ble_eq_true rfl) dX4_doesHelp_69 ⟨(Nat.zero_le _), (Nat.zero_le _)⟩) (fun r69 er69 => ?_)
    try dsimp only at er69
    refine lv_if_eq (tgt := 79) hx hb dX4_doesHelp_72 (by decide) (fun c72 => ?_) (fun c72 => ?_)
    · skip
      have c72 := if01_z er69 c72
      refine lv_iconst (v := 0) hx hb dX4_doesHelp_79 (by decide) ?_
      refine W.zret (v := 0) hx hb hr (by decide) (fun t ht hW => ⟨_, rfl, ?_, ht⟩) (fun _ h => nomatch h) dX4_doesHelp_80
      first | (rw [e9] at c72; simp only [helpB]; simp [c38, c72]; done) | (simp only [helpB]; simp [c38]; done)
    · skip
      have c72 := if01_n er69 c72
      refine lv_iconst (v := 1) hx hb dX4_doesHelp_75 (by decide) ?_
      refine lv_goto (tgt := 80) hx hb dX4_doesHelp_76 (by decide) ?_
      refine W.zret (v := 1) hx hb hr (by decide) (fun t ht hW => ⟨_, rfl, ?_, ht⟩) (fun _ h => nomatch h) dX4_doesHelp_80
      first | (rw [e9] at c72; simp only [helpB]; simp [c38, c72]; done) | (simp only [helpB]; simp [c38]; done)
