theorem mst_no {T : Nat → Nat → Nat} {M : List Th} {b k : Nat} (h : ¬ ((thA M k).2.1 = T 9 b ∧ helpB T M b k = true)) : mst T M b (k + 1) = mst T M b k := by
  simp only [mst]
  rw [if_neg h]
theorem mst_first {T : Nat → Nat → Nat} {M : List Th} {b k : Nat} (h : (thA M k).2.1 = T 9 b ∧ helpB T M b k = true) (h2 : mst T M b k = none) : mst T M b (k + 1) = some k := by
  simp only [mst]
  rw [if_pos h, h2]
theorem mst_near {T : Nat → Nat → Nat} {M : List Th} {b k u : Nat} (h : (thA M k).2.1 = T 9 b ∧ helpB T M b k = true) (h2 : mst T M b k = some u) (h3 : nearB (braA T (cnt M) b) (plc T M k) (plc T M u) = true) : mst T M b (k + 1) = some k := by
  simp only [mst]
  rw [if_pos h, h2]
  simp only []
  rw [if_pos h3]
theorem mst_keep {T : Nat → Nat → Nat} {M : List Th} {b k u : Nat} (h : (thA M k).2.1 = T 9 b ∧ helpB T M b k = true) (h2 : mst T M b k = some u) (h3 : ¬ nearB (braA T (cnt M) b) (plc T M k) (plc T M u) = true) : mst T M b (k + 1) = mst T M b k := by
  simp only [mst]
  rw [if_pos h, h2]
  simp only []
  rw [if_neg h3]
theorem mst_lt {T : Nat → Nat → Nat} {M : List Th} {b : Nat} : ∀ k u, mst T M b k = some u → u < k := by
  intro k
  induction k with
  | zero =>
    intro u h
    simp [mst] at h
  | succ k ih =>
    intro u h
    by_cases hc : (thA M k).2.1 = T 9 b ∧ helpB T M b k = true
    · cases h2 : mst T M b k with
      | none =>
        rw [mst_first hc h2] at h
        cases h
        omega
      | some v =>
        by_cases h3 : nearB (braA T (cnt M) b) (plc T M k) (plc T M v) = true
        · rw [mst_near hc h2 h3] at h
          cases h
          omega
        · rw [mst_keep hc h2 h3] at h
          have := ih u h
          omega
    · rw [mst_no hc] at h
      have := ih u h
      omega
def wntO (T : Nat → Nat → Nat) (M F : List Th) (b : Nat) : Option Nat := if anyW T M F b = true then none else wst T M b (T 0 0)
def oneT (o : Option Nat) (l r b : Nat) : List Th := match o with
  | none => []
  | some s => [(s, l, r, b)]
theorem wntL_O {T : Nat → Nat → Nat} {M F : List Th} {r b : Nat} : wntL T M F r b = oneT (wntO T M F b) (T 9 b) r b := by
  unfold wntL wntO oneT
  split
  · rfl
  · rfl
theorem help_of {T : Nat → Nat → Nat} {M : List Th} {b t : Nat} (hl : (thA M t).2.1 = T 9 b) : helpB T M b t = (rch (T 10 (T 8 b)) (T 11 (T 8 b)) (braA T (cnt M) b) (plc T M t) && rch (T 10 (T 0 7)) (T 11 (T 0 7)) (plc T M t) (labA T (cnt M) (T 9 b))) := by
  unfold helpB
  rw [hl]
set_option maxHeartbeats 4000000 in
set_option maxRecDepth 100000 in
theorem c_X9_thunkFor (l : Launch) (D : va_G) (y : Nat → ClassId) (ad : Nat → Nat) (cap : Nat → Nat) (I : Nat → Nat → Int32) (J : Nat → Nat → Int64) {T : Nat → Nat → Nat} {M F : List Th} (hM : RM I T) (hW : WF T) (hA : MA J T M) (hlM : (M ++ F).length ≤ 2400) (hTW : TW T (M ++ F)) (hMT : MT I (M ++ F)) (htz0 : 0 < M.length → 0 < T 0 5) {b0 : Nat} (hb0 : b0 < T 0 2) : Met l yX9_thunkFor [.code yX9_thunkFor cX9_thunkFor 6 (some .int)] ({ frames := 1, cells := 0, slots := 0, locals := 29 }) (va_Pc [.ref (ad 55), .int (nI b0), .int (nI M.length)] (PR D y (Wd y ad cap I J))) (vp_Si (fun r => r = oI (bst T M b0 (T 0 0)))) 0 0 (fun _ => False) := by
  refine Met.ofW (cc := cX9_thunkFor) (maxL := 6) (ret := (some .int)) (by decide) rfl ?_
  intro p e s m args below meth c s₁ B hml hv
  obtain ⟨rfl, hP, hO⟩ := hv
  have hx := B.exec
  have hb := B.bytes
  have hr := B.returns
  have hown : s.vm.findClass RX9 = some m.cls := findClass_of_methodNamed B.named
  have hlocks := B.notSynchronized
  have hK := hO.1
  have hts : ∀ w ∈ lw_E, w.before ([.ref (ad 55), .int (nI b0), .int (nI M.length)] : List Value).toArray s = true := fun w h => hO.2 w h _
  clear B
  have hl := lv_entry ([.ref (ad 55), .int (nI b0), .int (nI M.length)]) (n := 6) (Nat.le_of_ble_eq_true rfl)
  rw [lg_entry_eq]
  generalize (lg_sl ([.ref (ad 55), .int (nI b0), .int (nI M.length)]) ++ List.replicate (6 - (lg_sl ([.ref (ad 55), .int (nI b0), .int (nI M.length)])).length) Slot.unset).toArray = ls at hl ⊢
  have hl : lv_has ls 6 [(0, .ref (ad 55)), (1, .int (nI b0)), (2, .int (nI M.length))] := hl
  have hW0 := hW
  obtain ⟨⟨w1, w2, w3, w4, w5, w6, w7⟩, wS, wL, wB, wK, wTk, wT0⟩ := hW
  obtain ⟨x1, x2, x6, x7, x8⟩ := wB b0 hb0
  obtain ⟨x3, x4, x5⟩ := wS _ x1
  have hlA := hlM
  rw [List.length_append] at hlA
  have hnM : ∀ s, cnt M s ≤ 2400 := fun s => Nat.le_trans (cnt_le M s) (by omega)
  have hbr := braA_le hW0 hnM hb0
  have hlb := labA_le hW0 hnM x8
  have hTWM := TW_left hTW
  refine lv_iconst (v := (-1)) hx hb dX9_thunkFor_0 (by decide) ?_
  refine lv_istore_n (lv' := [(3, .int (-1)), (0, .ref (ad 55)), (1, .int (nI b0)), (2, .int (nI M.length))]) hx hb dX9_thunkFor_1 rfl hl (by decide) rfl (fun ls hl => ?_)
  refine lv_aload_n hx hb dX9_thunkFor_2 rfl (lv_at hl 1 rfl) ?_
  refine va_get (D := D) (T := TX9) (N := 51) hx hb hts jnX9 hown hK hP 55 (wd_55 y ad cap I J) rfl 12 (by decide) (hts _ fl_X9_35) (fun _ h9 => h9) rfl dX9_thunkFor_3 ?_
  refine lv_iload_n hx hb dX9_thunkFor_6 rfl (lv_at hl 2 rfl) ?_
  refine va_iald (D := D) hx hb hK hP 64 0 (wd_64 y ad cap I J) rfl (vp_in_nI (by omega) (by omega)) dX9_thunkFor_7 ?_
  rw [nI_clamp (n := b0) (by omega)]
  refine lv_topi (fun v7 ev7 => ?_)
  obtain rfl : v7 = (nI (T 9 b0)) := by
    rw [ev7]; exact (hM.2.2.2.1 _ (by omega)).2.2.2
  refine lv_istore (lv' := [(4, .int (nI (T 9 b0))), (3, .int (-1)), (0, .ref (ad 55)), (1, .int (nI b0)), (2, .int (nI M.length))]) hx hb dX9_thunkFor_8 hl (by decide) rfl (fun ls hl => ?_)
  refine lv_iconst (v := 0) hx hb dX9_thunkFor_10 (by decide) ?_
  refine lv_istore (lv' := [(5, .int 0), (4, .int (nI (T 9 b0))), (3, .int (-1)), (0, .ref (ad 55)), (1, .int (nI b0)), (2, .int (nI M.length))]) hx hb dX9_thunkFor_11 hl (by decide) rfl (fun ls hl => ?_)
  have loop13 : ∀ (n13 : Nat) (k : Nat) , (k ≤ M.length) → M.length + 1 ≤ k + n13 → ∀ ls : Array Slot, lv_has ls 6 [(0, .ref (ad 55)), (1, .int (nI b0)), (2, .int (nI M.length)), (3, .int (oI (mst T M b0 k))), (4, .int (nI (T 9 b0))), (5, .int (nI k))] → W p l e (headSpec [.code yX9_thunkFor cX9_thunkFor 6 (some .int)] ({ frames := 1, cells := 0, slots := 0, locals := 29 })).room s m ([.ref (ad 55), .int (nI b0), .int (nI M.length)] : List Value).toArray below meth c s.heap [] 0 0 (MQ below (vp_Si (fun r => r = oI (bst T M b0 (T 0 0)))) ([.ref (ad 55), .int (nI b0), .int (nI M.length)] : List Value).toArray s 0 0 (fun _ => False)) (F0 m 13 ls []) := by
    intro n13
    induction n13 with
    | zero =>
      intro k hk hmeas
      exact absurd hmeas (by omega)
    | succ n13 ih13 =>
      intro k hk hmeas ls hl
      refine lv_iload hx hb dX9_thunkFor_13 (lv_at hl 5 rfl) ?_
      refine lv_iload_n hx hb dX9_thunkFor_15 rfl (lv_at hl 2 rfl) ?_
      refine lv_icmp_ge (tgt := 124) hx hb dX9_thunkFor_16 (by decide) (fun c16 => ?_) (fun c16 => ?_)
      · skip
        have c16 := (nI_leI (a := M.length) (b := k) (by omega) (by omega)).mp c16
        refine lv_iload_n hx hb dX9_thunkFor_124 rfl (lv_at hl 3 rfl) ?_
        refine W.iret (v := (oI (mst T M b0 k))) hx hb hr (fun t ht hW => ⟨_, rfl, ?_, ht⟩) (fun _ h => nomatch h) dX9_thunkFor_125
        have : k = M.length := by omega
        rw [this, mst_bst htz0 hTWM]
      · skip
        have c16 := mt (nI_leI (a := M.length) (b := k) (by omega) (by omega)).mpr c16
        have htz := htz0 (by omega)
        have hpl := plc_le hW0 (by omega) hTWM (t := k) (by omega)
        obtain ⟨tw1, tw2, tw3, tw4⟩ := hTWM.1 k (by omega)
        refine lv_aload_n hx hb dX9_thunkFor_19 rfl (lv_at hl 0 rfl) ?_
        refine va_get (D := D) (T := TX9) (N := 51) hx hb hts jnX9 hown hK hP 55 (wd_55 y ad cap I J) rfl 44 (by decide) (hts _ fl_X9_87) (fun _ h9 => h9) rfl dX9_thunkFor_20 ?_
        refine lv_iload hx hb dX9_thunkFor_23 (lv_at hl 5 rfl) ?_
        refine va_iald (D := D) hx hb hK hP 81 0 (wd_81 y ad cap I J) rfl (vp_in_nI (by omega) (by omega)) dX9_thunkFor_25 ?_
        rw [nI_clamp (n := k) (by omega)]
        refine lv_topi (fun v25 ev25 => ?_)
        obtain rfl : v25 = (nI ((thA M k).2.1)) := by
          rw [ev25, (hMT _ (by rw [List.length_append]; omega)).2.1, thA_app (by omega)]
        refine lv_iload hx hb dX9_thunkFor_26 (lv_at hl 4 rfl) ?_
        refine lv_icmp_ne (tgt := 118) hx hb dX9_thunkFor_28 (by decide) (fun c28 => ?_) (fun c28 => ?_)
        · skip
          have c28 := mt (nI_eq (a := ((thA M k).2.1)) (b := (T 9 b0)) (by omega) (by omega)).mpr c28
          have eB := mst_no (T := T) (M := M) (b := b0) (k := k) (fun h9 => c28 h9.1)
          refine lv_iinc (v := (nI (k + 1))) (lv' := [(5, .int (nI (k + 1))), (0, .ref (ad 55)), (1, .int (nI b0)), (2, .int (nI M.length)), (3, .int (oI (mst T M b0 k))), (4, .int (nI (T 9 b0)))]) hx hb dX9_thunkFor_118 hl (k := 5) rfl (nI_1 _) (by decide) rfl (fun ls hl => ?_)
          refine lv_goto (tgt := 13) hx hb dX9_thunkFor_121 (by decide) ?_
          exact ih13 (k + 1) (by omega) (by omega) ls (by rw [eB]; exact lv_sub hl [1, 2, 3, 4, 5, 0] rfl)
        · skip
          have c28 := (nI_eq (a := ((thA M k).2.1)) (b := (T 9 b0)) (by omega) (by omega)).mp c28
          refine lv_aload_n hx hb dX9_thunkFor_31 rfl (lv_at hl 0 rfl) ?_
          refine lv_aload_n hx hb dX9_thunkFor_32 rfl (lv_at hl 0 rfl) ?_
          refine va_get (D := D) (T := TX9) (N := 51) hx hb hts jnX9 hown hK hP 55 (wd_55 y ad cap I J) rfl 11 (by decide) (hts _ fl_X9_32) (fun _ h9 => h9) rfl dX9_thunkFor_33 ?_
          refine lv_iload_n hx hb dX9_thunkFor_36 rfl (lv_at hl 1 rfl) ?_
          refine va_iald (D := D) hx hb hK hP 63 0 (wd_63 y ad cap I J) rfl (vp_in_nI (by omega) (by omega)) dX9_thunkFor_37 ?_
          rw [nI_clamp (n := b0) (by omega)]
          refine lv_topi (fun v37 ev37 => ?_)
          obtain rfl : v37 = (nI (T 8 b0)) := by
            rw [ev37]; exact (hM.2.2.2.1 _ (by omega)).2.2.1
          refine lv_aload_n hx hb dX9_thunkFor_38 rfl (lv_at hl 0 rfl) ?_
          refine va_get (D := D) (T := TX9) (N := 51) hx hb hts jnX9 hown hK hP 55 (wd_55 y ad cap I J) rfl 33 (by decide) (hts _ fl_X9_60) (fun _ h9 => h9) rfl dX9_thunkFor_39 ?_
          refine lv_iload_n hx hb dX9_thunkFor_42 rfl (lv_at hl 1 rfl) ?_
          refine va_lald (D := D) hx hb hK hP 72 1 (wd_72 y ad cap I J) rfl (vp_in_nI (by omega) (by omega)) dX9_thunkFor_43 ?_
          rw [nI_clamp (n := b0) (by omega)]
          refine lv_topl (fun v43 ev43 => ?_)
          obtain rfl : v43 = (lN (braA T (cnt M) b0)) := by
            rw [ev43]; exact hA.2.2.1 _ (by omega)
          refine lv_aload_n hx hb dX9_thunkFor_44 rfl (lv_at hl 0 rfl) ?_
          refine va_get (D := D) (T := TX9) (N := 51) hx hb hts jnX9 hown hK hP 55 (wd_55 y ad cap I J) rfl 42 (by decide) (hts _ fl_X9_81) (fun _ h9 => h9) rfl dX9_thunkFor_45 ?_
          refine lv_iload hx hb dX9_thunkFor_48 (lv_at hl 5 rfl) ?_
          refine va_lald (D := D) hx hb hK hP 79 1 (wd_79 y ad cap I J) rfl (vp_in_nI (by omega) (by omega)) dX9_thunkFor_50 ?_
          rw [nI_clamp (n := k) (by omega)]
          refine lv_topl (fun v50 ev50 => ?_)
          obtain rfl : v50 = (lN (plc T M k)) := by
            rw [ev50]; exact hA.2.2.2.1 _ (by omega)
          refine rk_i (run_v (As := [.int (nI (T 8 b0)), .long (lN (braA T (cnt M) b0)), .long (lN (plc T M k))]) (rest := []) (b := (ad 55)) hx hb hml hown hO.2 (c_X9_reaches l D y ad cap I J hM hW0 (k0 := T 8 b0) x6 x7 (by omega) (by omega)) k_X9_reaches ml_X9_147 ⟨rfl, rfl⟩ ⟨Nat.le_of_ble_eq_true rfl, Nat.le_of_ble_eq_true rfl⟩ (pre_VR hO hP (wd_55 y ad cap I J) rfl) rfl hl.1 rfl (Nat.le_of_ble_eq_true rfl) dX9_thunkFor_51 ⟨(Nat.zero_le _), (Nat.zero_le _)⟩) (fun r51 er51 => ?_)
          try dsimp only at er51
          refine lv_if_eq (tgt := 118) hx hb dX9_thunkFor_54 (by decide) (fun c54 => ?_) (fun c54 => ?_)
          · skip
            have c54 := if01_z er51 c54
            have eB := mst_no (T := T) (M := M) (b := b0) (k := k) (fun h9 => c54 (by have h8 := h9.2; rw [help_of h9.1, Bool.and_eq_true] at h8; exact h8.1))
            refine lv_iinc (v := (nI (k + 1))) (lv' := [(5, .int (nI (k + 1))), (0, .ref (ad 55)), (1, .int (nI b0)), (2, .int (nI M.length)), (3, .int (oI (mst T M b0 k))), (4, .int (nI (T 9 b0)))]) hx hb dX9_thunkFor_118 hl (k := 5) rfl (nI_1 _) (by decide) rfl (fun ls hl => ?_)
            refine lv_goto (tgt := 13) hx hb dX9_thunkFor_121 (by decide) ?_
            exact ih13 (k + 1) (by omega) (by omega) ls (by rw [eB]; exact lv_sub hl [1, 2, 3, 4, 5, 0] rfl)
          · skip
            have c54 := if01_n er51 c54
            refine lv_aload_n hx hb dX9_thunkFor_57 rfl (lv_at hl 0 rfl) ?_
            refine lv_aload_n hx hb dX9_thunkFor_58 rfl (lv_at hl 0 rfl) ?_
            refine va_get (D := D) (T := TX9) (N := 51) hx hb hts jnX9 hown hK hP 55 (wd_55 y ad cap I J) rfl 17 (by decide) (hts _ fl_X9_133) (fun _ h9 => h9) rfl dX9_thunkFor_59 ?_
            refine lv_topi (fun v59 ev59 => ?_)
            obtain rfl : v59 = (nI (T 0 7)) := by
              rw [ev59]; exact hM.1.2.2.2.2.2.2.2 htz
            refine lv_aload_n hx hb dX9_thunkFor_62 rfl (lv_at hl 0 rfl) ?_
            refine va_get (D := D) (T := TX9) (N := 51) hx hb hts jnX9 hown hK hP 55 (wd_55 y ad cap I J) rfl 42 (by decide) (hts _ fl_X9_81) (fun _ h9 => h9) rfl dX9_thunkFor_63 ?_
            refine lv_iload hx hb dX9_thunkFor_66 (lv_at hl 5 rfl) ?_
            refine va_lald (D := D) hx hb hK hP 79 1 (wd_79 y ad cap I J) rfl (vp_in_nI (by omega) (by omega)) dX9_thunkFor_68 ?_
            rw [nI_clamp (n := k) (by omega)]
            refine lv_topl (fun v68 ev68 => ?_)
            obtain rfl : v68 = (lN (plc T M k)) := by
              rw [ev68]; exact hA.2.2.2.1 _ (by omega)
            refine lv_aload_n hx hb dX9_thunkFor_69 rfl (lv_at hl 0 rfl) ?_
            refine va_get (D := D) (T := TX9) (N := 51) hx hb hts jnX9 hown hK hP 55 (wd_55 y ad cap I J) rfl 32 (by decide) (hts _ fl_X9_57) (fun _ h9 => h9) rfl dX9_thunkFor_70 ?_
            refine lv_iload hx hb dX9_thunkFor_73 (lv_at hl 4 rfl) ?_
            refine va_lald (D := D) hx hb hK hP 71 1 (wd_71 y ad cap I J) rfl (vp_in_nI (by omega) (by omega)) dX9_thunkFor_75 ?_
            rw [nI_clamp (n := T 9 b0) (by omega)]
            refine lv_topl (fun v75 ev75 => ?_)
            obtain rfl : v75 = (lN (labA T (cnt M) (T 9 b0))) := by
              rw [ev75]; exact hA.2.1 _ (by omega)
            refine rk_i (run_v (As := [.int (nI (T 0 7)), .long (lN (plc T M k)), .long (lN (labA T (cnt M) (T 9 b0)))]) (rest := []) (b := (ad 55)) hx hb hml hown hO.2 (c_X9_reaches l D y ad cap I J hM hW0 (k0 := T 0 7) (wTk htz).1 (wTk htz).2 (by omega) (by omega)) k_X9_reaches ml_X9_147 ⟨rfl, rfl⟩ ⟨Nat.le_of_ble_eq_true rfl, Nat.le_of_ble_eq_true rfl⟩ (pre_VR hO hP (wd_55 y ad cap I J) rfl) rfl hl.1 rfl (Nat.le_of_ble_eq_true rfl) dX9_thunkFor_76 ⟨(Nat.zero_le _), (Nat.zero_le _)⟩) (fun r76 er76 => ?_)
            try dsimp only at er76
            refine lv_if_ne (tgt := 85) hx hb dX9_thunkFor_79 (by decide) (fun c79 => ?_) (fun c79 => ?_)
            · skip
              have c79 := if01_n er76 c79
              have hh : (thA M k).2.1 = T 9 b0 ∧ helpB T M b0 k = true := ⟨c28, by rw [help_of c28, c54, c79]; rfl⟩
              refine lv_iload_n hx hb dX9_thunkFor_85 rfl (lv_at hl 3 rfl) ?_
              refine lv_iconst (v := (-1)) hx hb dX9_thunkFor_86 (by decide) ?_
              refine lv_icmp_eq (tgt := 115) hx hb dX9_thunkFor_87 (by decide) (fun c87 => ?_) (fun c87 => ?_)
              · skip
                have eB := mst_first hh ((oI_neg (fun u hu => by have := mst_lt k u hu; omega)).mp c87)
                refine lv_iload hx hb dX9_thunkFor_115 (lv_at hl 5 rfl) ?_
                refine lv_istore_n (lv' := [(3, .int (nI k)), (0, .ref (ad 55)), (1, .int (nI b0)), (2, .int (nI M.length)), (4, .int (nI (T 9 b0))), (5, .int (nI k))]) hx hb dX9_thunkFor_117 rfl hl (by decide) rfl (fun ls hl => ?_)
                refine lv_iinc (v := (nI (k + 1))) (lv' := [(5, .int (nI (k + 1))), (3, .int (nI k)), (0, .ref (ad 55)), (1, .int (nI b0)), (2, .int (nI M.length)), (4, .int (nI (T 9 b0)))]) hx hb dX9_thunkFor_118 hl (k := 5) rfl (nI_1 _) (by decide) rfl (fun ls hl => ?_)
                refine lv_goto (tgt := 13) hx hb dX9_thunkFor_121 (by decide) ?_
                exact ih13 (k + 1) (by omega) (by omega) ls (by rw [eB]; exact lv_sub hl [2, 3, 4, 1, 5, 0] rfl)
              · skip
                obtain ⟨u, hu⟩ := Option.ne_none_iff_exists'.mp (fun h9 => c87 ((oI_neg (fun u hu => by have := mst_lt k u hu; omega)).mpr h9))
                rw [hu] at hl
                simp only [oI] at hl
                have huk := mst_lt k u hu
                have hpu := plc_le hW0 (by omega) hTWM (t := u) (by omega)
                refine lv_aload_n hx hb dX9_thunkFor_90 rfl (lv_at hl 0 rfl) ?_
                refine va_get (D := D) (T := TX9) (N := 51) hx hb hts jnX9 hown hK hP 55 (wd_55 y ad cap I J) rfl 33 (by decide) (hts _ fl_X9_60) (fun _ h9 => h9) rfl dX9_thunkFor_91 ?_
                refine lv_iload_n hx hb dX9_thunkFor_94 rfl (lv_at hl 1 rfl) ?_
                refine va_lald (D := D) hx hb hK hP 72 1 (wd_72 y ad cap I J) rfl (vp_in_nI (by omega) (by omega)) dX9_thunkFor_95 ?_
                rw [nI_clamp (n := b0) (by omega)]
                refine lv_topl (fun v95 ev95 => ?_)
                obtain rfl : v95 = (lN (braA T (cnt M) b0)) := by
                  rw [ev95]; exact hA.2.2.1 _ (by omega)
                refine lv_aload_n hx hb dX9_thunkFor_96 rfl (lv_at hl 0 rfl) ?_
                refine va_get (D := D) (T := TX9) (N := 51) hx hb hts jnX9 hown hK hP 55 (wd_55 y ad cap I J) rfl 42 (by decide) (hts _ fl_X9_81) (fun _ h9 => h9) rfl dX9_thunkFor_97 ?_
                refine lv_iload hx hb dX9_thunkFor_100 (lv_at hl 5 rfl) ?_
                refine va_lald (D := D) hx hb hK hP 79 1 (wd_79 y ad cap I J) rfl (vp_in_nI (by omega) (by omega)) dX9_thunkFor_102 ?_
                rw [nI_clamp (n := k) (by omega)]
                refine lv_topl (fun v102 ev102 => ?_)
                obtain rfl : v102 = (lN (plc T M k)) := by
                  rw [ev102]; exact hA.2.2.2.1 _ (by omega)
                refine lv_aload_n hx hb dX9_thunkFor_103 rfl (lv_at hl 0 rfl) ?_
                refine va_get (D := D) (T := TX9) (N := 51) hx hb hts jnX9 hown hK hP 55 (wd_55 y ad cap I J) rfl 42 (by decide) (hts _ fl_X9_81) (fun _ h9 => h9) rfl dX9_thunkFor_104 ?_
                refine lv_iload_n hx hb dX9_thunkFor_107 rfl (lv_at hl 3 rfl) ?_
                refine va_lald (D := D) hx hb hK hP 79 1 (wd_79 y ad cap I J) rfl (vp_in_nI (by omega) (by omega)) dX9_thunkFor_108 ?_
                rw [nI_clamp (n := u) (by omega)]
                refine lv_topl (fun v108 ev108 => ?_)
                obtain rfl : v108 = (lN (plc T M u)) := by
                  rw [ev108]; exact hA.2.2.2.1 _ (by omega)
                refine rk_i (run_s (As := [.long (lN (braA T (cnt M) b0)), .long (lN (plc T M k)), .long (lN (plc T M u))]) (rest := []) hx hb hml hown hO.2 (c_X9_isNearer l D y (x0 := braA T (cnt M) b0) (a0 := plc T M k) (b0 := plc T M u) (by omega) (by omega) (by omega)) k_X9_isNearer ml_X9_151 ⟨rfl, rfl⟩ ⟨Nat.le_of_ble_eq_true rfl, Nat.le_of_ble_eq_true rfl⟩ (pre_SR hO hP) rfl hl.1 rfl (Nat.le_of_ble_eq_true rfl) dX9_thunkFor_109 ⟨(Nat.zero_le _), (Nat.zero_le _)⟩) (fun r109 er109 => ?_)
                try dsimp only at er109
                refine lv_if_eq (tgt := 118) hx hb dX9_thunkFor_112 (by decide) (fun c112 => ?_) (fun c112 => ?_)
                · skip
                  have c112 := if01_z er109 c112
                  have eB := mst_keep hh hu c112
                  rw [hu] at eB
                  refine lv_iinc (v := (nI (k + 1))) (lv' := [(5, .int (nI (k + 1))), (0, .ref (ad 55)), (1, .int (nI b0)), (2, .int (nI M.length)), (3, .int (nI u)), (4, .int (nI (T 9 b0)))]) hx hb dX9_thunkFor_118 hl (k := 5) rfl (nI_1 _) (by decide) rfl (fun ls hl => ?_)
                  refine lv_goto (tgt := 13) hx hb dX9_thunkFor_121 (by decide) ?_
                  exact ih13 (k + 1) (by omega) (by omega) ls (by rw [eB]; exact lv_sub hl [1, 2, 3, 4, 5, 0] rfl)
                · skip
                  have c112 := if01_n er109 c112
                  have eB := mst_near hh hu c112
                  refine lv_iload hx hb dX9_thunkFor_115 (lv_at hl 5 rfl) ?_
                  refine lv_istore_n (lv' := [(3, .int (nI k)), (0, .ref (ad 55)), (1, .int (nI b0)), (2, .int (nI M.length)), (4, .int (nI (T 9 b0))), (5, .int (nI k))]) hx hb dX9_thunkFor_117 rfl hl (by decide) rfl (fun ls hl => ?_)
                  refine lv_iinc (v := (nI (k + 1))) (lv' := [(5, .int (nI (k + 1))), (3, .int (nI k)), (0, .ref (ad 55)), (1, .int (nI b0)), (2, .int (nI M.length)), (4, .int (nI (T 9 b0)))]) hx hb dX9_thunkFor_118 hl (k := 5) rfl (nI_1 _) (by decide) rfl (fun ls hl => ?_)
                  refine lv_goto (tgt := 13) hx hb dX9_thunkFor_121 (by decide) ?_
                  exact ih13 (k + 1) (by omega) (by omega) ls (by rw [eB]; exact lv_sub hl [2, 3, 4, 1, 5, 0] rfl)
            · skip
              have c79 := if01_z er76 c79
              have eB := mst_no (T := T) (M := M) (b := b0) (k := k) (fun h9 => c79 (by have h8 := h9.2; rw [help_of h9.1, Bool.and_eq_true] at h8; exact h8.2))
              refine lv_goto (tgt := 118) hx hb dX9_thunkFor_82 (by decide) ?_
              refine lv_iinc (v := (nI (k + 1))) (lv' := [(5, .int (nI (k + 1))), (0, .ref (ad 55)), (1, .int (nI b0)), (2, .int (nI M.length)), (3, .int (oI (mst T M b0 k))), (4, .int (nI (T 9 b0)))]) hx hb dX9_thunkFor_118 hl (k := 5) rfl (nI_1 _) (by decide) rfl (fun ls hl => ?_)
              refine lv_goto (tgt := 13) hx hb dX9_thunkFor_121 (by decide) ?_
              exact ih13 (k + 1) (by omega) (by omega) ls (by rw [eB]; exact lv_sub hl [1, 2, 3, 4, 5, 0] rfl)
  exact loop13 (M.length + 1) 0 (by omega) (by omega) ls (by show lv_has ls _ [(0, .ref (ad 55)), (1, .int (nI b0)), (2, .int (nI M.length)), (3, .int (-1)), (4, .int (nI (T 9 b0))), (5, .int 0)]; exact lv_sub hl [3, 4, 5, 2, 1, 0] rfl)
set_option maxHeartbeats 4000000 in
set_option maxRecDepth 100000 in
theorem c_X9_wants (l : Launch) (D : va_G) (y : Nat → ClassId) (ad : Nat → Nat) (cap : Nat → Nat) (I : Nat → Nat → Int32) (J : Nat → Nat → Int64) {T : Nat → Nat → Nat} {M F : List Th} (hM : RM I T) (hW : WF T) (hA : MA J T M) (hlM : (M ++ F).length ≤ 2400) (hTW : TW T (M ++ F)) (hMT : MT I (M ++ F)) (htz : 0 < T 0 5) (hfr : I 55 49 = nI (M ++ F).length) {b0 : Nat} (hb0 : b0 < T 0 2) : Met l yX9_wants [.code yX9_wants cX9_wants 6 (some .int)] ({ frames := 1, cells := 0, slots := 0, locals := 29 }) (va_Pc [.ref (ad 55), .int (nI b0), .int (nI M.length)] (PR D y (Wd y ad cap I J))) (vp_Si (fun r => r = oI (wntO T M F b0))) 0 0 (fun _ => False) := by
  refine Met.ofW (cc := cX9_wants) (maxL := 6) (ret := (some .int)) (by decide) rfl ?_
  intro p e s m args below meth c s₁ B hml hv
  obtain ⟨rfl, hP, hO⟩ := hv
  have hx := B.exec
  have hb := B.bytes
  have hr := B.returns
  have hown : s.vm.findClass RX9 = some m.cls := findClass_of_methodNamed B.named
  have hlocks := B.notSynchronized
  have hK := hO.1
  have hts : ∀ w ∈ lw_E, w.before ([.ref (ad 55), .int (nI b0), .int (nI M.length)] : List Value).toArray s = true := fun w h => hO.2 w h _
  clear B
  have hl := lv_entry ([.ref (ad 55), .int (nI b0), .int (nI M.length)]) (n := 6) (Nat.le_of_ble_eq_true rfl)
  rw [lg_entry_eq]
  generalize (lg_sl ([.ref (ad 55), .int (nI b0), .int (nI M.length)]) ++ List.replicate (6 - (lg_sl ([.ref (ad 55), .int (nI b0), .int (nI M.length)])).length) Slot.unset).toArray = ls at hl ⊢
  have hl : lv_has ls 6 [(0, .ref (ad 55)), (1, .int (nI b0)), (2, .int (nI M.length))] := hl
  have hW0 := hW
  obtain ⟨⟨w1, w2, w3, w4, w5, w6, w7⟩, wS, wL, wB, wK, wTk, wT0⟩ := hW
  obtain ⟨x1, x2, x6, x7, x8⟩ := wB b0 hb0
  obtain ⟨x3, x4, x5⟩ := wS _ x1
  have hlA := hlM
  rw [List.length_append] at hlA
  have hnM : ∀ s, cnt M s ≤ 2400 := fun s => Nat.le_trans (cnt_le M s) (by omega)
  have hbr := braA_le hW0 hnM hb0
  have hlb := labA_le hW0 hnM x8
  have hTWM := TW_left hTW
  refine lv_iconst (v := (-1)) hx hb dX9_wants_0 (by decide) ?_
  refine lv_istore_n (lv' := [(3, .int (-1)), (0, .ref (ad 55)), (1, .int (nI b0)), (2, .int (nI M.length))]) hx hb dX9_wants_1 rfl hl (by decide) rfl (fun ls hl => ?_)
  refine lv_aload_n hx hb dX9_wants_2 rfl (lv_at hl 1 rfl) ?_
  refine va_get (D := D) (T := TX9) (N := 51) hx hb hts jnX9 hown hK hP 55 (wd_55 y ad cap I J) rfl 12 (by decide) (hts _ fl_X9_35) (fun _ h9 => h9) rfl dX9_wants_3 ?_
  refine lv_iload_n hx hb dX9_wants_6 rfl (lv_at hl 2 rfl) ?_
  refine va_iald (D := D) hx hb hK hP 64 0 (wd_64 y ad cap I J) rfl (vp_in_nI (by omega) (by omega)) dX9_wants_7 ?_
  rw [nI_clamp (n := b0) (by omega)]
  refine lv_topi (fun v7 ev7 => ?_)
  obtain rfl : v7 = (nI (T 9 b0)) := by
    rw [ev7]; exact (hM.2.2.2.1 _ (by omega)).2.2.2
  refine lv_istore (lv' := [(4, .int (nI (T 9 b0))), (3, .int (-1)), (0, .ref (ad 55)), (1, .int (nI b0)), (2, .int (nI M.length))]) hx hb dX9_wants_8 hl (by decide) rfl (fun ls hl => ?_)
  refine lv_iconst (v := 0) hx hb dX9_wants_10 (by decide) ?_
  refine lv_istore (lv' := [(5, .int 0), (4, .int (nI (T 9 b0))), (3, .int (-1)), (0, .ref (ad 55)), (1, .int (nI b0)), (2, .int (nI M.length))]) hx hb dX9_wants_11 hl (by decide) rfl (fun ls hl => ?_)
  have loop13 : ∀ (n13 : Nat) (k : Nat) , (k ≤ T 0 0) → (∀ j, j < k → couB T M b0 j = true → ¬ inB F j (T 9 b0) = true) → T 0 0 + 1 ≤ k + n13 → ∀ ls : Array Slot, lv_has ls 6 [(0, .ref (ad 55)), (1, .int (nI b0)), (2, .int (nI M.length)), (3, .int (oI (wst T M b0 k))), (4, .int (nI (T 9 b0))), (5, .int (nI k))] → W p l e (headSpec [.code yX9_wants cX9_wants 6 (some .int)] ({ frames := 1, cells := 0, slots := 0, locals := 29 })).room s m ([.ref (ad 55), .int (nI b0), .int (nI M.length)] : List Value).toArray below meth c s.heap [] 0 0 (MQ below (vp_Si (fun r => r = oI (wntO T M F b0))) ([.ref (ad 55), .int (nI b0), .int (nI M.length)] : List Value).toArray s 0 0 (fun _ => False)) (F0 m 13 ls []) := by
    intro n13
    induction n13 with
    | zero =>
      intro k hk hno hmeas
      exact absurd hmeas (by omega)
    | succ n13 ih13 =>
      intro k hk hno hmeas ls hl
      refine lv_iload hx hb dX9_wants_13 (lv_at hl 5 rfl) ?_
      refine lv_aload_n hx hb dX9_wants_15 rfl (lv_at hl 0 rfl) ?_
      refine va_get (D := D) (T := TX9) (N := 51) hx hb hts jnX9 hown hK hP 55 (wd_55 y ad cap I J) rfl 0 (by decide) (hts _ fl_X9_105) (fun _ h9 => h9) rfl dX9_wants_16 ?_
      refine lv_topi (fun v16 ev16 => ?_)
      obtain rfl : v16 = (nI (T 0 0)) := by
        rw [ev16]; exact hM.1.1
      refine lv_icmp_ge (tgt := 156) hx hb dX9_wants_19 (by decide) (fun c19 => ?_) (fun c19 => ?_)
      · skip
        have c19 := (nI_leI (a := (T 0 0)) (b := k) (by omega) (by omega)).mp c19
        refine lv_iload_n hx hb dX9_wants_156 rfl (lv_at hl 3 rfl) ?_
        refine W.iret (v := (oI (wst T M b0 k))) hx hb hr (fun t ht hW => ⟨_, rfl, ?_, ht⟩) (fun _ h => nomatch h) dX9_wants_157
        have hk9 : k = T 0 0 := by omega
        unfold wntO
        rw [if_neg (anyW_no (fun j hj => hno j (by omega))), hk9]
      · skip
        have c19 := mt (nI_leI (a := (T 0 0)) (b := k) (by omega) (by omega)).mpr c19
        have hpe := pE_le hW0 hnM (s := k) (by omega)
        obtain ⟨y3, y4, y5⟩ := wS k (by omega)
        refine lv_aload_n hx hb dX9_wants_22 rfl (lv_at hl 0 rfl) ?_
        refine va_get (D := D) (T := TX9) (N := 51) hx hb hts jnX9 hown hK hP 55 (wd_55 y ad cap I J) rfl 6 (by decide) (hts _ fl_X9_16) (fun _ h9 => h9) rfl dX9_wants_23 ?_
        refine lv_iload hx hb dX9_wants_26 (lv_at hl 5 rfl) ?_
        refine va_zald (D := D) hx hb hK hP 58 2 (wd_58 y ad cap I J) rfl (vp_in_nI (by omega) (by omega)) dX9_wants_28 ?_
        rw [nI_clamp (n := k) (by omega)]
        refine lv_topi (fun v28 ev28 => ?_)
        obtain rfl : v28 = (nI (T 3 k)) := by
          rw [ev28]; exact (hM.2.1 _ (by omega)).2.2
        refine lv_if_eq (tgt := 150) hx hb dX9_wants_29 (by decide) (fun c29 => ?_) (fun c29 => ?_)
        · skip
          have hnc : ¬ couB T M b0 k = true := by unfold couB; rw [(nI_z (by omega)).mp c29]; simp
          have eB := wst_no hnc
          refine lv_iinc (v := (nI (k + 1))) (lv' := [(5, .int (nI (k + 1))), (0, .ref (ad 55)), (1, .int (nI b0)), (2, .int (nI M.length)), (3, .int (oI (wst T M b0 k))), (4, .int (nI (T 9 b0)))]) hx hb dX9_wants_150 hl (k := 5) rfl (nI_1 _) (by decide) rfl (fun ls hl => ?_)
          refine lv_goto (tgt := 13) hx hb dX9_wants_153 (by decide) ?_
          exact ih13 (k + 1) (by omega) (fun j hj hcj => by rcases lt_s2 hj with h9 | h9; (subst h9; first | exact absurd hcj hnc | exact c112); exact hno j h9 hcj) (by omega) ls (by rw [eB]; exact lv_sub hl [1, 2, 3, 4, 5, 0] rfl)
        · skip
          refine lv_aload_n hx hb dX9_wants_32 rfl (lv_at hl 0 rfl) ?_
          refine lv_aload_n hx hb dX9_wants_33 rfl (lv_at hl 0 rfl) ?_
          refine va_get (D := D) (T := TX9) (N := 51) hx hb hts jnX9 hown hK hP 55 (wd_55 y ad cap I J) rfl 11 (by decide) (hts _ fl_X9_32) (fun _ h9 => h9) rfl dX9_wants_34 ?_
          refine lv_iload_n hx hb dX9_wants_37 rfl (lv_at hl 1 rfl) ?_
          refine va_iald (D := D) hx hb hK hP 63 0 (wd_63 y ad cap I J) rfl (vp_in_nI (by omega) (by omega)) dX9_wants_38 ?_
          rw [nI_clamp (n := b0) (by omega)]
          refine lv_topi (fun v38 ev38 => ?_)
          obtain rfl : v38 = (nI (T 8 b0)) := by
            rw [ev38]; exact (hM.2.2.2.1 _ (by omega)).2.2.1
          refine lv_aload_n hx hb dX9_wants_39 rfl (lv_at hl 0 rfl) ?_
          refine va_get (D := D) (T := TX9) (N := 51) hx hb hts jnX9 hown hK hP 55 (wd_55 y ad cap I J) rfl 33 (by decide) (hts _ fl_X9_60) (fun _ h9 => h9) rfl dX9_wants_40 ?_
          refine lv_iload_n hx hb dX9_wants_43 rfl (lv_at hl 1 rfl) ?_
          refine va_lald (D := D) hx hb hK hP 72 1 (wd_72 y ad cap I J) rfl (vp_in_nI (by omega) (by omega)) dX9_wants_44 ?_
          rw [nI_clamp (n := b0) (by omega)]
          refine lv_topl (fun v44 ev44 => ?_)
          obtain rfl : v44 = (lN (braA T (cnt M) b0)) := by
            rw [ev44]; exact hA.2.2.1 _ (by omega)
          refine lv_aload_n hx hb dX9_wants_45 rfl (lv_at hl 0 rfl) ?_
          refine va_get (D := D) (T := TX9) (N := 51) hx hb hts jnX9 hown hK hP 55 (wd_55 y ad cap I J) rfl 31 (by decide) (hts _ fl_X9_54) (fun _ h9 => h9) rfl dX9_wants_46 ?_
          refine lv_iload hx hb dX9_wants_49 (lv_at hl 5 rfl) ?_
          refine va_lald (D := D) hx hb hK hP 70 1 (wd_70 y ad cap I J) rfl (vp_in_nI (by omega) (by omega)) dX9_wants_51 ?_
          rw [nI_clamp (n := k) (by omega)]
          refine lv_topl (fun v51 ev51 => ?_)
          obtain rfl : v51 = (lN (pE T (cnt M) k)) := by
            rw [ev51]; exact (hA.1 _ (by omega)).2.2
          refine rk_i (run_v (As := [.int (nI (T 8 b0)), .long (lN (braA T (cnt M) b0)), .long (lN (pE T (cnt M) k))]) (rest := []) (b := (ad 55)) hx hb hml hown hO.2 (c_X9_reaches l D y ad cap I J hM hW0 (k0 := T 8 b0) x6 x7 (by omega) (by omega)) k_X9_reaches ml_X9_147 ⟨rfl, rfl⟩ ⟨Nat.le_of_ble_eq_true rfl, Nat.le_of_ble_eq_true rfl⟩ (pre_VR hO hP (wd_55 y ad cap I J) rfl) rfl hl.1 rfl (Nat.le_of_ble_eq_true rfl) dX9_wants_52 ⟨(Nat.zero_le _), (Nat.zero_le _)⟩) (fun r52 er52 => ?_)
          try dsimp only at er52
          refine lv_if_eq (tgt := 150) hx hb dX9_wants_55 (by decide) (fun c55 => ?_) (fun c55 => ?_)
          · skip
            have c55 := if01_z er52 c55
            have hnc : ¬ couB T M b0 k = true := fun h9 => by unfold couB at h9; simp only [Bool.and_eq_true] at h9; exact c55 h9.1.2
            have eB := wst_no hnc
            refine lv_iinc (v := (nI (k + 1))) (lv' := [(5, .int (nI (k + 1))), (0, .ref (ad 55)), (1, .int (nI b0)), (2, .int (nI M.length)), (3, .int (oI (wst T M b0 k))), (4, .int (nI (T 9 b0)))]) hx hb dX9_wants_150 hl (k := 5) rfl (nI_1 _) (by decide) rfl (fun ls hl => ?_)
            refine lv_goto (tgt := 13) hx hb dX9_wants_153 (by decide) ?_
            exact ih13 (k + 1) (by omega) (fun j hj hcj => by rcases lt_s2 hj with h9 | h9; (subst h9; first | exact absurd hcj hnc | exact c112); exact hno j h9 hcj) (by omega) ls (by rw [eB]; exact lv_sub hl [1, 2, 3, 4, 5, 0] rfl)
          · skip
            have c55 := if01_n er52 c55
            refine lv_aload_n hx hb dX9_wants_58 rfl (lv_at hl 0 rfl) ?_
            refine lv_aload_n hx hb dX9_wants_59 rfl (lv_at hl 0 rfl) ?_
            refine va_get (D := D) (T := TX9) (N := 51) hx hb hts jnX9 hown hK hP 55 (wd_55 y ad cap I J) rfl 17 (by decide) (hts _ fl_X9_133) (fun _ h9 => h9) rfl dX9_wants_60 ?_
            refine lv_topi (fun v60 ev60 => ?_)
            obtain rfl : v60 = (nI (T 0 7)) := by
              rw [ev60]; exact hM.1.2.2.2.2.2.2.2 htz
            refine lv_aload_n hx hb dX9_wants_63 rfl (lv_at hl 0 rfl) ?_
            refine va_get (D := D) (T := TX9) (N := 51) hx hb hts jnX9 hown hK hP 55 (wd_55 y ad cap I J) rfl 31 (by decide) (hts _ fl_X9_54) (fun _ h9 => h9) rfl dX9_wants_64 ?_
            refine lv_iload hx hb dX9_wants_67 (lv_at hl 5 rfl) ?_
            refine va_lald (D := D) hx hb hK hP 70 1 (wd_70 y ad cap I J) rfl (vp_in_nI (by omega) (by omega)) dX9_wants_69 ?_
            rw [nI_clamp (n := k) (by omega)]
            refine lv_topl (fun v69 ev69 => ?_)
            obtain rfl : v69 = (lN (pE T (cnt M) k)) := by
              rw [ev69]; exact (hA.1 _ (by omega)).2.2
            refine lv_aload_n hx hb dX9_wants_70 rfl (lv_at hl 0 rfl) ?_
            refine va_get (D := D) (T := TX9) (N := 51) hx hb hts jnX9 hown hK hP 55 (wd_55 y ad cap I J) rfl 32 (by decide) (hts _ fl_X9_57) (fun _ h9 => h9) rfl dX9_wants_71 ?_
            refine lv_iload hx hb dX9_wants_74 (lv_at hl 4 rfl) ?_
            refine va_lald (D := D) hx hb hK hP 71 1 (wd_71 y ad cap I J) rfl (vp_in_nI (by omega) (by omega)) dX9_wants_76 ?_
            rw [nI_clamp (n := T 9 b0) (by omega)]
            refine lv_topl (fun v76 ev76 => ?_)
            obtain rfl : v76 = (lN (labA T (cnt M) (T 9 b0))) := by
              rw [ev76]; exact hA.2.1 _ (by omega)
            refine rk_i (run_v (As := [.int (nI (T 0 7)), .long (lN (pE T (cnt M) k)), .long (lN (labA T (cnt M) (T 9 b0)))]) (rest := []) (b := (ad 55)) hx hb hml hown hO.2 (c_X9_reaches l D y ad cap I J hM hW0 (k0 := T 0 7) (wTk htz).1 (wTk htz).2 (by omega) (by omega)) k_X9_reaches ml_X9_147 ⟨rfl, rfl⟩ ⟨Nat.le_of_ble_eq_true rfl, Nat.le_of_ble_eq_true rfl⟩ (pre_VR hO hP (wd_55 y ad cap I J) rfl) rfl hl.1 rfl (Nat.le_of_ble_eq_true rfl) dX9_wants_77 ⟨(Nat.zero_le _), (Nat.zero_le _)⟩) (fun r77 er77 => ?_)
            try dsimp only at er77
            refine lv_if_eq (tgt := 150) hx hb dX9_wants_80 (by decide) (fun c80 => ?_) (fun c80 => ?_)
            · skip
              have c80 := if01_z er77 c80
              have hnc : ¬ couB T M b0 k = true := fun h9 => by unfold couB at h9; simp only [Bool.and_eq_true] at h9; exact c80 h9.2
              have eB := wst_no hnc
              refine lv_iinc (v := (nI (k + 1))) (lv' := [(5, .int (nI (k + 1))), (0, .ref (ad 55)), (1, .int (nI b0)), (2, .int (nI M.length)), (3, .int (oI (wst T M b0 k))), (4, .int (nI (T 9 b0)))]) hx hb dX9_wants_150 hl (k := 5) rfl (nI_1 _) (by decide) rfl (fun ls hl => ?_)
              refine lv_goto (tgt := 13) hx hb dX9_wants_153 (by decide) ?_
              exact ih13 (k + 1) (by omega) (fun j hj hcj => by rcases lt_s2 hj with h9 | h9; (subst h9; first | exact absurd hcj hnc | exact c112); exact hno j h9 hcj) (by omega) ls (by rw [eB]; exact lv_sub hl [1, 2, 3, 4, 5, 0] rfl)
            · skip
              have c80 := if01_n er77 c80
              refine lv_aload_n hx hb dX9_wants_83 rfl (lv_at hl 0 rfl) ?_
              refine lv_iload hx hb dX9_wants_84 (lv_at hl 5 rfl) ?_
              refine lv_iload hx hb dX9_wants_86 (lv_at hl 4 rfl) ?_
              refine lv_iconst (v := 0) hx hb dX9_wants_88 (by decide) ?_
              refine lv_iload_n hx hb dX9_wants_89 rfl (lv_at hl 2 rfl) ?_
              rw [show (0 : Int32) = nI 0 from rfl]
              refine rk_i (run_v (As := [.int (nI k), .int (nI (T 9 b0)), .int (nI 0), .int (nI M.length)]) (rest := []) (b := (ad 55)) hx hb hml hown hO.2 (c_X9_hasThunk l D y ad cap I J hMT hlM (fun t ht => ⟨by have := (hTW.1 t ht).1; omega, by have := (hTW.1 t ht).2.1; omega, trivial, trivial, trivial⟩) (s0 := k) (l0 := T 9 b0) (f0 := 0) (t0 := M.length) (by omega) (by omega) (by omega) (by rw [List.length_append]; omega)) k_X9_hasThunk ml_X9_155 ⟨rfl, rfl⟩ ⟨Nat.le_of_ble_eq_true rfl, Nat.le_of_ble_eq_true rfl⟩ (pre_VR hO hP (wd_55 y ad cap I J) rfl) rfl hl.1 rfl (Nat.le_of_ble_eq_true rfl) dX9_wants_90 ⟨(Nat.zero_le _), (Nat.zero_le _)⟩) (fun r90 er90 => ?_)
              try dsimp only at er90
              rw [hasB_made] at er90
              refine lv_if_eq (tgt := 99) hx hb dX9_wants_93 (by decide) (fun c93 => ?_) (fun c93 => ?_)
              · skip
                have c93 := if01_z er90 c93
                have hc : couB T M b0 k = true := by
                  have h3 : ¬ T 3 k = 0 := mt (nI_z (by omega)).mpr c29
                  have h4 : inB M k (T 9 b0) = false := by simpa using c93
                  unfold couB
                  rw [c55, c80, h4]
                  simp [h3]
                refine lv_aload_n hx hb dX9_wants_99 rfl (lv_at hl 0 rfl) ?_
                refine lv_iload hx hb dX9_wants_100 (lv_at hl 5 rfl) ?_
                refine lv_iload hx hb dX9_wants_102 (lv_at hl 4 rfl) ?_
                refine lv_iload_n hx hb dX9_wants_104 rfl (lv_at hl 2 rfl) ?_
                refine lv_aload_n hx hb dX9_wants_105 rfl (lv_at hl 0 rfl) ?_
                refine va_get (D := D) (T := TX9) (N := 51) hx hb hts jnX9 hown hK hP 55 (wd_55 y ad cap I J) rfl 49 (by decide) (hts _ fl_X9_159) (fun _ h9 => h9) rfl dX9_wants_106 ?_
                refine lv_topi (fun v106 ev106 => ?_)
                obtain rfl : v106 = (nI ((M ++ F).length)) := by
                  rw [ev106]; exact hfr
                refine rk_i (run_v (As := [.int (nI k), .int (nI (T 9 b0)), .int (nI M.length), .int (nI ((M ++ F).length))]) (rest := []) (b := (ad 55)) hx hb hml hown hO.2 (c_X9_hasThunk l D y ad cap I J hMT hlM (fun t ht => ⟨by have := (hTW.1 t ht).1; omega, by have := (hTW.1 t ht).2.1; omega, trivial, trivial, trivial⟩) (s0 := k) (l0 := T 9 b0) (f0 := M.length) (t0 := (M ++ F).length) (by omega) (by omega) (by rw [List.length_append]; omega) (by omega)) k_X9_hasThunk ml_X9_155 ⟨rfl, rfl⟩ ⟨Nat.le_of_ble_eq_true rfl, Nat.le_of_ble_eq_true rfl⟩ (pre_VR hO hP (wd_55 y ad cap I J) rfl) rfl hl.1 rfl (Nat.le_of_ble_eq_true rfl) dX9_wants_109 ⟨(Nat.zero_le _), (Nat.zero_le _)⟩) (fun r109 er109 => ?_)
                try dsimp only at er109
                rw [hasB_want] at er109
                refine lv_if_eq (tgt := 117) hx hb dX9_wants_112 (by decide) (fun c112 => ?_) (fun c112 => ?_)
                · skip
                  have c112 := if01_z er109 c112
                  refine lv_iload_n hx hb dX9_wants_117 rfl (lv_at hl 3 rfl) ?_
                  refine lv_iconst (v := (-1)) hx hb dX9_wants_118 (by decide) ?_
                  refine lv_icmp_eq (tgt := 147) hx hb dX9_wants_119 (by decide) (fun c119 => ?_) (fun c119 => ?_)
                  · skip
                    have eB := wst_first hc ((oI_neg (fun u hu => by have := wst_lt k u hu; omega)).mp c119)
                    refine lv_iload hx hb dX9_wants_147 (lv_at hl 5 rfl) ?_
                    refine lv_istore_n (lv' := [(3, .int (nI k)), (0, .ref (ad 55)), (1, .int (nI b0)), (2, .int (nI M.length)), (4, .int (nI (T 9 b0))), (5, .int (nI k))]) hx hb dX9_wants_149 rfl hl (by decide) rfl (fun ls hl => ?_)
                    refine lv_iinc (v := (nI (k + 1))) (lv' := [(5, .int (nI (k + 1))), (3, .int (nI k)), (0, .ref (ad 55)), (1, .int (nI b0)), (2, .int (nI M.length)), (4, .int (nI (T 9 b0)))]) hx hb dX9_wants_150 hl (k := 5) rfl (nI_1 _) (by decide) rfl (fun ls hl => ?_)
                    refine lv_goto (tgt := 13) hx hb dX9_wants_153 (by decide) ?_
                    exact ih13 (k + 1) (by omega) (fun j hj hcj => by rcases lt_s2 hj with h9 | h9; (subst h9; first | exact absurd hcj hnc | exact c112); exact hno j h9 hcj) (by omega) ls (by rw [eB]; exact lv_sub hl [2, 3, 4, 1, 5, 0] rfl)
                  · skip
                    obtain ⟨u, hu⟩ := Option.ne_none_iff_exists'.mp (fun h9 => c119 ((oI_neg (fun u hu => by have := wst_lt k u hu; omega)).mpr h9))
                    rw [hu] at hl
                    simp only [oI] at hl
                    have huk := (wst_lt k u hu).1
                    have hpu := pE_le hW0 hnM (s := u) (by omega)
                    have hpm := pE_mono (T := T) (n := cnt M) (show u ≤ k by omega)
                    refine lv_aload_n hx hb dX9_wants_122 rfl (lv_at hl 0 rfl) ?_
                    refine va_get (D := D) (T := TX9) (N := 51) hx hb hts jnX9 hown hK hP 55 (wd_55 y ad cap I J) rfl 33 (by decide) (hts _ fl_X9_60) (fun _ h9 => h9) rfl dX9_wants_123 ?_
                    refine lv_iload_n hx hb dX9_wants_126 rfl (lv_at hl 1 rfl) ?_
                    refine va_lald (D := D) hx hb hK hP 72 1 (wd_72 y ad cap I J) rfl (vp_in_nI (by omega) (by omega)) dX9_wants_127 ?_
                    rw [nI_clamp (n := b0) (by omega)]
                    refine lv_topl (fun v127 ev127 => ?_)
                    obtain rfl : v127 = (lN (braA T (cnt M) b0)) := by
                      rw [ev127]; exact hA.2.2.1 _ (by omega)
                    refine lv_aload_n hx hb dX9_wants_128 rfl (lv_at hl 0 rfl) ?_
                    refine va_get (D := D) (T := TX9) (N := 51) hx hb hts jnX9 hown hK hP 55 (wd_55 y ad cap I J) rfl 31 (by decide) (hts _ fl_X9_54) (fun _ h9 => h9) rfl dX9_wants_129 ?_
                    refine lv_iload hx hb dX9_wants_132 (lv_at hl 5 rfl) ?_
                    refine va_lald (D := D) hx hb hK hP 70 1 (wd_70 y ad cap I J) rfl (vp_in_nI (by omega) (by omega)) dX9_wants_134 ?_
                    rw [nI_clamp (n := k) (by omega)]
                    refine lv_topl (fun v134 ev134 => ?_)
                    obtain rfl : v134 = (lN (pE T (cnt M) k)) := by
                      rw [ev134]; exact (hA.1 _ (by omega)).2.2
                    refine lv_aload_n hx hb dX9_wants_135 rfl (lv_at hl 0 rfl) ?_
                    refine va_get (D := D) (T := TX9) (N := 51) hx hb hts jnX9 hown hK hP 55 (wd_55 y ad cap I J) rfl 31 (by decide) (hts _ fl_X9_54) (fun _ h9 => h9) rfl dX9_wants_136 ?_
                    refine lv_iload_n hx hb dX9_wants_139 rfl (lv_at hl 3 rfl) ?_
                    refine va_lald (D := D) hx hb hK hP 70 1 (wd_70 y ad cap I J) rfl (vp_in_nI (by omega) (by omega)) dX9_wants_140 ?_
                    rw [nI_clamp (n := u) (by omega)]
                    refine lv_topl (fun v140 ev140 => ?_)
                    obtain rfl : v140 = (lN (pE T (cnt M) u)) := by
                      rw [ev140]; exact (hA.1 _ (by omega)).2.2
                    refine rk_i (run_s (As := [.long (lN (braA T (cnt M) b0)), .long (lN (pE T (cnt M) k)), .long (lN (pE T (cnt M) u))]) (rest := []) hx hb hml hown hO.2 (c_X9_isNearer l D y (x0 := braA T (cnt M) b0) (a0 := pE T (cnt M) k) (b0 := pE T (cnt M) u) (by omega) (by omega) (by omega)) k_X9_isNearer ml_X9_151 ⟨rfl, rfl⟩ ⟨Nat.le_of_ble_eq_true rfl, Nat.le_of_ble_eq_true rfl⟩ (pre_SR hO hP) rfl hl.1 rfl (Nat.le_of_ble_eq_true rfl) dX9_wants_141 ⟨(Nat.zero_le _), (Nat.zero_le _)⟩) (fun r141 er141 => ?_)
                    try dsimp only at er141
                    refine lv_if_eq (tgt := 150) hx hb dX9_wants_144 (by decide) (fun c144 => ?_) (fun c144 => ?_)
                    · skip
                      have c144 := if01_z er141 c144
                      have eB := wst_keep hc hu (fun h9 => c144 ((lt_near hpm).mpr h9))
                      rw [hu] at eB
                      refine lv_iinc (v := (nI (k + 1))) (lv' := [(5, .int (nI (k + 1))), (0, .ref (ad 55)), (1, .int (nI b0)), (2, .int (nI M.length)), (3, .int (nI u)), (4, .int (nI (T 9 b0)))]) hx hb dX9_wants_150 hl (k := 5) rfl (nI_1 _) (by decide) rfl (fun ls hl => ?_)
                      refine lv_goto (tgt := 13) hx hb dX9_wants_153 (by decide) ?_
                      exact ih13 (k + 1) (by omega) (fun j hj hcj => by rcases lt_s2 hj with h9 | h9; (subst h9; first | exact absurd hcj hnc | exact c112); exact hno j h9 hcj) (by omega) ls (by rw [eB]; exact lv_sub hl [1, 2, 3, 4, 5, 0] rfl)
                    · skip
                      have c144 := if01_n er141 c144
                      have eB := wst_less hc hu ((lt_near hpm).mp c144)
                      refine lv_iload hx hb dX9_wants_147 (lv_at hl 5 rfl) ?_
                      refine lv_istore_n (lv' := [(3, .int (nI k)), (0, .ref (ad 55)), (1, .int (nI b0)), (2, .int (nI M.length)), (4, .int (nI (T 9 b0))), (5, .int (nI k))]) hx hb dX9_wants_149 rfl hl (by decide) rfl (fun ls hl => ?_)
                      refine lv_iinc (v := (nI (k + 1))) (lv' := [(5, .int (nI (k + 1))), (3, .int (nI k)), (0, .ref (ad 55)), (1, .int (nI b0)), (2, .int (nI M.length)), (4, .int (nI (T 9 b0)))]) hx hb dX9_wants_150 hl (k := 5) rfl (nI_1 _) (by decide) rfl (fun ls hl => ?_)
                      refine lv_goto (tgt := 13) hx hb dX9_wants_153 (by decide) ?_
                      exact ih13 (k + 1) (by omega) (fun j hj hcj => by rcases lt_s2 hj with h9 | h9; (subst h9; first | exact absurd hcj hnc | exact c112); exact hno j h9 hcj) (by omega) ls (by rw [eB]; exact lv_sub hl [2, 3, 4, 1, 5, 0] rfl)
                · skip
                  have c112 := if01_n er109 c112
                  refine lv_iconst (v := (-1)) hx hb dX9_wants_115 (by decide) ?_
                  refine W.iret (v := (-1)) hx hb hr (fun t ht hW => ⟨_, rfl, ?_, ht⟩) (fun _ h => nomatch h) dX9_wants_116
                  unfold wntO
                  rw [if_pos (anyW_yes (by omega) hc c112)]
                  rfl
              · skip
                have c93 := if01_n er90 c93
                have hnc : ¬ couB T M b0 k = true := fun h9 => by have := (cou_inM h9).1; rw [c93] at this; cases this
                have eB := wst_no hnc
                refine lv_goto (tgt := 150) hx hb dX9_wants_96 (by decide) ?_
                refine lv_iinc (v := (nI (k + 1))) (lv' := [(5, .int (nI (k + 1))), (0, .ref (ad 55)), (1, .int (nI b0)), (2, .int (nI M.length)), (3, .int (oI (wst T M b0 k))), (4, .int (nI (T 9 b0)))]) hx hb dX9_wants_150 hl (k := 5) rfl (nI_1 _) (by decide) rfl (fun ls hl => ?_)
                refine lv_goto (tgt := 13) hx hb dX9_wants_153 (by decide) ?_
                exact ih13 (k + 1) (by omega) (fun j hj hcj => by rcases lt_s2 hj with h9 | h9; (subst h9; first | exact absurd hcj hnc | exact c112); exact hno j h9 hcj) (by omega) ls (by rw [eB]; exact lv_sub hl [1, 2, 3, 4, 5, 0] rfl)
  exact loop13 (T 0 0 + 1) 0 (by omega) (fun j hj => absurd hj (by omega)) (by omega) ls (by show lv_has ls _ [(0, .ref (ad 55)), (1, .int (nI b0)), (2, .int (nI M.length)), (3, .int (-1)), (4, .int (nI (T 9 b0))), (5, .int 0)]; exact lv_sub hl [3, 4, 5, 2, 1, 0] rfl)
