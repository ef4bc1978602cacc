set_option maxHeartbeats 4000000 in
set_option maxRecDepth 100000 in
theorem law_0 {p : Program} {l : Launch} {e : Env} {s : State} {m : MethodId} {below : List Frame} {meth : Method} {c : Code} {D : va_G} {y : Nat → ClassId} {b L : Nat} {xs : Nat → Int32} (hL : L ≤ 2560) (C0 : lw_At p s m meth c b L xs) (hO : Ok D y s) {A : Nat → Prop} (hAe : A = fun q => s.heap.size ≤ q) {i : Nat} (hi : i + 5 ≤ L) (ad : Nat → Nat) (cap : Nat → Nat) (I : Nat → Nat → Int32) (J : Nat → Nat → Int64) (T : Nat → Nat → Nat) (fl : Nat) (TL : Nat → Nat → Nat) (M : List Th) (R : Nat) (hI : Inv I J (cap 0) T fl TL M R) {H : Heap} {locs : List Loc} (hP : va_P D vwCl (Wd y ad cap I J) H) (hD : va_D A (Wd y ad cap I J)) (hS : va_S A s.heap H locs) {ls : Array Slot} (hl : lv_has ls 4 [(0, .ref b), (1, .ref (ad 0)), (2, .ref (ad 55)), (3, .int (nI i))]) (kk : ∀ (cap' : Nat → Nat) (I' : Nat → Nat → Int32) (J' : Nat → Nat → Int64) (T' : Nat → Nat → Nat) (fl' : Nat) (TL' : Nat → Nat → Nat) (M' : List Th) (R' : Nat) (H' : Heap) (locs' : List Loc) (ls' : Array Slot), Inv I' J' (cap' 0) T' fl' TL' M' R' → va_P D vwCl (Wd y ad cap' I' J') H' → va_D A (Wd y ad cap' I' J') → va_S A s.heap H' locs' → lv_has ls' 4 [(0, .ref b), (1, .ref (ad 0)), (2, .ref (ad 55)), (3, .int (nI i))] → W p l e room_1 s m #[Value.ref b] below meth c H' locs' (87 + (cap' 0 - 16)) (24606 + 50 * (cap' 0 - 16)) (lw_Z below #[Value.ref b] s) (F0 m 695 ls' [])) : W p l e room_1 s m #[Value.ref b] below meth c H locs (87 + (cap 0 - 16)) (24606 + 50 * (cap 0 - 16)) (lw_Z below #[Value.ref b] s) (F0 m 116 ls []) := by
  obtain ⟨hx, hb, hr, hml, hown, -, hX, hbl, hlocks, -⟩ := C0
  have hown : s.vm.findClass RL = some m.cls := hown
  have hK := hO.1
  have hts : ∀ w ∈ lw_E, w.before #[Value.ref b] s = true := fun w h => hO.2 w h _
  have hA : ∀ q, s.heap.size ≤ q → A q := fun q h => by rw [hAe]; exact h
  have hbA : ¬ A b := by rw [hAe]; exact Nat.not_le.mpr hbl
  obtain ⟨hCI, h3, hRM, h19, hMX, hcp, h54⟩ := id hI
  obtain ⟨hT1, hW, hfl, -, hWL, -⟩ := id hCI
  obtain ⟨hc1, hc2⟩ := isCap_b hcp
  refine lv_aload_n hx hb dL_law_116 rfl (lv_at hl 1 rfl) ?_
  refine lv_aload_n hx hb dL_law_117 rfl (lv_at hl 0 rfl) ?_
  refine lv_iload_n hx hb dL_law_118 rfl (lv_at hl 3 rfl) ?_
  refine lv_iconst (v := 1) hx hb dL_law_119 (by decide) ?_
  refine lv_iadd hx hb dL_law_120 ?_
  refine lv_topi (fun v120 ev120 => ?_)
  obtain rfl : v120 = (nI (i + 1)) := by rw [ev120, show (1 : Int32) = nI 1 from rfl, nI_add]
  refine va_sld hx hb hX hbl hbA hS (vp_in_nI (by omega) (by omega)) dL_law_121 ?_
  rw [nI_clamp (n := i + 1) (by omega)]
  refine lv_aload_n hx hb dL_law_122 rfl (lv_at hl 0 rfl) ?_
  refine lv_iload_n hx hb dL_law_123 rfl (lv_at hl 3 rfl) ?_
  refine lv_iconst (v := 2) hx hb dL_law_124 (by decide) ?_
  refine lv_iadd hx hb dL_law_125 ?_
  refine lv_topi (fun v125 ev125 => ?_)
  obtain rfl : v125 = (nI (i + 2)) := by rw [ev125, show (2 : Int32) = nI 2 from rfl, nI_add]
  refine va_sld hx hb hX hbl hbA hS (vp_in_nI (by omega) (by omega)) dL_law_126 ?_
  rw [nI_clamp (n := i + 2) (by omega)]
  refine lv_aload_n hx hb dL_law_127 rfl (lv_at hl 0 rfl) ?_
  refine lv_iload_n hx hb dL_law_128 rfl (lv_at hl 3 rfl) ?_
  refine lv_iconst (v := 3) hx hb dL_law_129 (by decide) ?_
  refine lv_iadd hx hb dL_law_130 ?_
  refine lv_topi (fun v130 ev130 => ?_)
  obtain rfl : v130 = (nI (i + 3)) := by rw [ev130, show (3 : Int32) = nI 3 from rfl, nI_add]
  refine va_sld hx hb hX hbl hbA hS (vp_in_nI (by omega) (by omega)) dL_law_131 ?_
  rw [nI_clamp (n := i + 3) (by omega)]
  refine lv_if_eq (tgt := 139) hx hb dL_law_132 (by decide) (fun c132 => ?_) (fun c132 => ?_)
  · skip
    
    refine lv_iconst (v := 0) hx hb dL_law_139 (by decide) ?_
    refine wk_i (Wf := Wt y) (run_v (As := [.int (xs (i + 1)), .int (xs (i + 2)), .int 0]) (rest := []) (b := (ad 0)) hx hb hml hown hO.2 (c_X8_section l D y ad cap I J H.size hT1 hW (xs (i + 1)) (xs (i + 2)) (q0 := 0) (by omega)) k_X8_section ml_L_13 ⟨rfl, rfl⟩ ⟨Nat.le_of_ble_eq_true rfl, Nat.le_of_ble_eq_true rfl⟩ (pre_VW hO hP hD (wd_0 y ad cap I J) rfl) rfl hl.1 rfl (Nat.le_of_ble_eq_true rfl) dL_law_140 ⟨(by show 87 + (cap 0 - 16) + 0 ≤ 600000; omega), (by show 24606 + 50 * (cap 0 - 16) + 0 ≤ 7302250; omega)⟩) hD hS hA (fun r140 u140 H locs hp140 hP hD hS => ?_)
    try dsimp only at hp140
    obtain ⟨I140, rfl, hE140, hv140, hn140⟩ := hp140
    have hM140 := RM_keep hRM (fun j hj => hE140 j (by simp; omega))
    have hP : va_P D vwCl (Wd y ad cap I140 J) H := hP
    have hD : va_D A (Wd y ad cap I140 J) := hD
    refine lv_aload_n hx hb dL_law_143 rfl (lv_at hl 2 rfl) ?_
    refine lv_aload_n hx hb dL_law_144 rfl (lv_at hl 0 rfl) ?_
    refine lv_iload_n hx hb dL_law_145 rfl (lv_at hl 3 rfl) ?_
    refine lv_iconst (v := 1) hx hb dL_law_146 (by decide) ?_
    refine lv_iadd hx hb dL_law_147 ?_
    refine lv_topi (fun v147 ev147 => ?_)
    obtain rfl : v147 = (nI (i + 1)) := by rw [ev147, show (1 : Int32) = nI 1 from rfl, nI_add]
    refine va_sld hx hb hX hbl hbA hS (vp_in_nI (by omega) (by omega)) dL_law_148 ?_
    rw [nI_clamp (n := i + 1) (by omega)]
    refine lv_aload_n hx hb dL_law_149 rfl (lv_at hl 0 rfl) ?_
    refine lv_iload_n hx hb dL_law_150 rfl (lv_at hl 3 rfl) ?_
    refine lv_iconst (v := 2) hx hb dL_law_151 (by decide) ?_
    refine lv_iadd hx hb dL_law_152 ?_
    refine lv_topi (fun v152 ev152 => ?_)
    obtain rfl : v152 = (nI (i + 2)) := by rw [ev152, show (2 : Int32) = nI 2 from rfl, nI_add]
    refine va_sld hx hb hX hbl hbA hS (vp_in_nI (by omega) (by omega)) dL_law_153 ?_
    rw [nI_clamp (n := i + 2) (by omega)]
    refine lv_aload_n hx hb dL_law_154 rfl (lv_at hl 0 rfl) ?_
    refine lv_iload_n hx hb dL_law_155 rfl (lv_at hl 3 rfl) ?_
    refine lv_iconst (v := 3) hx hb dL_law_156 (by decide) ?_
    refine lv_iadd hx hb dL_law_157 ?_
    refine lv_topi (fun v157 ev157 => ?_)
    obtain rfl : v157 = (nI (i + 3)) := by rw [ev157, show (3 : Int32) = nI 3 from rfl, nI_add]
    refine va_sld hx hb hX hbl hbA hS (vp_in_nI (by omega) (by omega)) dL_law_158 ?_
    rw [nI_clamp (n := i + 3) (by omega)]
    refine lv_if_eq (tgt := 166) hx hb dL_law_159 (by decide) (fun c159 => ?_) (fun c159 => ?_)
    · skip
      refine lv_iconst (v := 0) hx hb dL_law_166 (by decide) ?_
      refine wk_i (Wf := Wt y) (run_v (As := [.int (xs (i + 1)), .int (xs (i + 2)), .int 0]) (rest := [.int r140]) (b := (ad 55)) hx hb hml hown hO.2 (c_X9_section l D y ad cap I140 J H.size hM140 hW (xs (i + 1)) (xs (i + 2)) (q0 := 0) (by omega)) k_X9_section ml_L_17 ⟨rfl, rfl⟩ ⟨Nat.le_of_ble_eq_true rfl, Nat.le_of_ble_eq_true rfl⟩ (pre_VW hO hP hD (wd_55 y ad cap I140 J) rfl) rfl hl.1 rfl (Nat.le_of_ble_eq_true rfl) dL_law_167 ⟨(by show 87 + (cap 0 - 16) + 0 ≤ 600000; omega), (by show 24606 + 50 * (cap 0 - 16) + 0 ≤ 7302250; omega)⟩) hD hS hA (fun r167 u167 H locs hp167 hP hD hS => ?_)
      try dsimp only at hp167
      obtain ⟨I167, rfl, hv167, hn167⟩ := hp167
      have hP : va_P D vwCl (Wd y ad cap I167 J) H := hP
      have hD : va_D A (Wd y ad cap I167 J) := hD
      have hq : r140 = r167 ∧ ∃ (T' : Nat → Nat → Nat) (fl' : Nat), Inv I167 J (cap 0) T' fl' TL M R := by
        by_cases hV : secV T (xs (i + 1)) (xs (i + 2))
        · obtain ⟨e1, e2, e3⟩ := hv140 hV
          obtain ⟨e4, e5, e6, e7, e8⟩ := hv167 hV
          have hwf := wf_s hW h3 (q := 0) (by omega) hV
          exact ⟨e1.trans e4.symm, _, 1, Inv_tell hI (fun j hj => hE140 j (by simp; omega)) e2 e3 (fun j hj => e6 j (by simp; omega)) e7 e5 e8 hwf.1 hwf.2⟩
        · obtain ⟨e1, e2⟩ := hn140 hV
          obtain ⟨e3, e4⟩ := hn167 hV
          exact ⟨e1.trans e3.symm, T, fl, by rw [e4, e2]; exact hI⟩
      obtain ⟨hq1, T9, fl9, hI9⟩ := hq
      refine lv_icmp_eq (tgt := 695) hx hb dL_law_170 (by decide) (fun c170 => ?_) (fun c170 => ?_)
      · skip
        exact kk cap I167 J _ _ _ _ _ _ _ ls hI9 hP hD hS (by exact lv_sub hl [0, 1, 2, 3] rfl)
      · skip
        exact absurd hq1 c170
    · skip
      exact absurd c132 c159
  · skip
    
    refine lv_iconst (v := 1) hx hb dL_law_135 (by decide) ?_
    refine lv_goto (tgt := 140) hx hb dL_law_136 (by decide) ?_
    refine wk_i (Wf := Wt y) (run_v (As := [.int (xs (i + 1)), .int (xs (i + 2)), .int 1]) (rest := []) (b := (ad 0)) hx hb hml hown hO.2 (c_X8_section l D y ad cap I J H.size hT1 hW (xs (i + 1)) (xs (i + 2)) (q0 := 1) (by omega)) k_X8_section ml_L_13 ⟨rfl, rfl⟩ ⟨Nat.le_of_ble_eq_true rfl, Nat.le_of_ble_eq_true rfl⟩ (pre_VW hO hP hD (wd_0 y ad cap I J) rfl) rfl hl.1 rfl (Nat.le_of_ble_eq_true rfl) dL_law_140 ⟨(by show 87 + (cap 0 - 16) + 0 ≤ 600000; omega), (by show 24606 + 50 * (cap 0 - 16) + 0 ≤ 7302250; omega)⟩) hD hS hA (fun r140 u140 H locs hp140 hP hD hS => ?_)
    try dsimp only at hp140
    obtain ⟨I140, rfl, hE140, hv140, hn140⟩ := hp140
    have hM140 := RM_keep hRM (fun j hj => hE140 j (by simp; omega))
    have hP : va_P D vwCl (Wd y ad cap I140 J) H := hP
    have hD : va_D A (Wd y ad cap I140 J) := hD
    refine lv_aload_n hx hb dL_law_143 rfl (lv_at hl 2 rfl) ?_
    refine lv_aload_n hx hb dL_law_144 rfl (lv_at hl 0 rfl) ?_
    refine lv_iload_n hx hb dL_law_145 rfl (lv_at hl 3 rfl) ?_
    refine lv_iconst (v := 1) hx hb dL_law_146 (by decide) ?_
    refine lv_iadd hx hb dL_law_147 ?_
    refine lv_topi (fun v147 ev147 => ?_)
    obtain rfl : v147 = (nI (i + 1)) := by rw [ev147, show (1 : Int32) = nI 1 from rfl, nI_add]
    refine va_sld hx hb hX hbl hbA hS (vp_in_nI (by omega) (by omega)) dL_law_148 ?_
    rw [nI_clamp (n := i + 1) (by omega)]
    refine lv_aload_n hx hb dL_law_149 rfl (lv_at hl 0 rfl) ?_
    refine lv_iload_n hx hb dL_law_150 rfl (lv_at hl 3 rfl) ?_
    refine lv_iconst (v := 2) hx hb dL_law_151 (by decide) ?_
    refine lv_iadd hx hb dL_law_152 ?_
    refine lv_topi (fun v152 ev152 => ?_)
    obtain rfl : v152 = (nI (i + 2)) := by rw [ev152, show (2 : Int32) = nI 2 from rfl, nI_add]
    refine va_sld hx hb hX hbl hbA hS (vp_in_nI (by omega) (by omega)) dL_law_153 ?_
    rw [nI_clamp (n := i + 2) (by omega)]
    refine lv_aload_n hx hb dL_law_154 rfl (lv_at hl 0 rfl) ?_
    refine lv_iload_n hx hb dL_law_155 rfl (lv_at hl 3 rfl) ?_
    refine lv_iconst (v := 3) hx hb dL_law_156 (by decide) ?_
    refine lv_iadd hx hb dL_law_157 ?_
    refine lv_topi (fun v157 ev157 => ?_)
    obtain rfl : v157 = (nI (i + 3)) := by rw [ev157, show (3 : Int32) = nI 3 from rfl, nI_add]
    refine va_sld hx hb hX hbl hbA hS (vp_in_nI (by omega) (by omega)) dL_law_158 ?_
    rw [nI_clamp (n := i + 3) (by omega)]
    refine lv_if_eq (tgt := 166) hx hb dL_law_159 (by decide) (fun c159 => ?_) (fun c159 => ?_)
    · skip
      exact absurd c159 c132
    · skip
      refine lv_iconst (v := 1) hx hb dL_law_162 (by decide) ?_
      refine lv_goto (tgt := 167) hx hb dL_law_163 (by decide) ?_
      refine wk_i (Wf := Wt y) (run_v (As := [.int (xs (i + 1)), .int (xs (i + 2)), .int 1]) (rest := [.int r140]) (b := (ad 55)) hx hb hml hown hO.2 (c_X9_section l D y ad cap I140 J H.size hM140 hW (xs (i + 1)) (xs (i + 2)) (q0 := 1) (by omega)) k_X9_section ml_L_17 ⟨rfl, rfl⟩ ⟨Nat.le_of_ble_eq_true rfl, Nat.le_of_ble_eq_true rfl⟩ (pre_VW hO hP hD (wd_55 y ad cap I140 J) rfl) rfl hl.1 rfl (Nat.le_of_ble_eq_true rfl) dL_law_167 ⟨(by show 87 + (cap 0 - 16) + 0 ≤ 600000; omega), (by show 24606 + 50 * (cap 0 - 16) + 0 ≤ 7302250; omega)⟩) hD hS hA (fun r167 u167 H locs hp167 hP hD hS => ?_)
      try dsimp only at hp167
      obtain ⟨I167, rfl, hv167, hn167⟩ := hp167
      have hP : va_P D vwCl (Wd y ad cap I167 J) H := hP
      have hD : va_D A (Wd y ad cap I167 J) := hD
      have hq : r140 = r167 ∧ ∃ (T' : Nat → Nat → Nat) (fl' : Nat), Inv I167 J (cap 0) T' fl' TL M R := by
        by_cases hV : secV T (xs (i + 1)) (xs (i + 2))
        · obtain ⟨e1, e2, e3⟩ := hv140 hV
          obtain ⟨e4, e5, e6, e7, e8⟩ := hv167 hV
          have hwf := wf_s hW h3 (q := 1) (by omega) hV
          exact ⟨e1.trans e4.symm, _, 1, Inv_tell hI (fun j hj => hE140 j (by simp; omega)) e2 e3 (fun j hj => e6 j (by simp; omega)) e7 e5 e8 hwf.1 hwf.2⟩
        · obtain ⟨e1, e2⟩ := hn140 hV
          obtain ⟨e3, e4⟩ := hn167 hV
          exact ⟨e1.trans e3.symm, T, fl, by rw [e4, e2]; exact hI⟩
      obtain ⟨hq1, T9, fl9, hI9⟩ := hq
      refine lv_icmp_eq (tgt := 695) hx hb dL_law_170 (by decide) (fun c170 => ?_) (fun c170 => ?_)
      · skip
        exact kk cap I167 J _ _ _ _ _ _ _ ls hI9 hP hD hS (by exact lv_sub hl [0, 1, 2, 3] rfl)
      · skip
        exact absurd hq1 c170
set_option maxHeartbeats 4000000 in
set_option maxRecDepth 100000 in
theorem law_1 {p : Program} {l : Launch} {e : Env} {s : State} {m : MethodId} {below : List Frame} {meth : Method} {c : Code} {D : va_G} {y : Nat → ClassId} {b L : Nat} {xs : Nat → Int32} (hL : L ≤ 2560) (C0 : lw_At p s m meth c b L xs) (hO : Ok D y s) {A : Nat → Prop} (hAe : A = fun q => s.heap.size ≤ q) {i : Nat} (hi : i + 5 ≤ L) (ad : Nat → Nat) (cap : Nat → Nat) (I : Nat → Nat → Int32) (J : Nat → Nat → Int64) (T : Nat → Nat → Nat) (fl : Nat) (TL : Nat → Nat → Nat) (M : List Th) (R : Nat) (hI : Inv I J (cap 0) T fl TL M R) {H : Heap} {locs : List Loc} (hP : va_P D vwCl (Wd y ad cap I J) H) (hD : va_D A (Wd y ad cap I J)) (hS : va_S A s.heap H locs) {ls : Array Slot} (hl : lv_has ls 4 [(0, .ref b), (1, .ref (ad 0)), (2, .ref (ad 55)), (3, .int (nI i))]) (kk : ∀ (cap' : Nat → Nat) (I' : Nat → Nat → Int32) (J' : Nat → Nat → Int64) (T' : Nat → Nat → Nat) (fl' : Nat) (TL' : Nat → Nat → Nat) (M' : List Th) (R' : Nat) (H' : Heap) (locs' : List Loc) (ls' : Array Slot), Inv I' J' (cap' 0) T' fl' TL' M' R' → va_P D vwCl (Wd y ad cap' I' J') H' → va_D A (Wd y ad cap' I' J') → va_S A s.heap H' locs' → lv_has ls' 4 [(0, .ref b), (1, .ref (ad 0)), (2, .ref (ad 55)), (3, .int (nI i))] → W p l e room_1 s m #[Value.ref b] below meth c H' locs' (87 + (cap' 0 - 16)) (24606 + 50 * (cap' 0 - 16)) (lw_Z below #[Value.ref b] s) (F0 m 695 ls' [])) : W p l e room_1 s m #[Value.ref b] below meth c H locs (87 + (cap 0 - 16)) (24606 + 50 * (cap 0 - 16)) (lw_Z below #[Value.ref b] s) (F0 m 175 ls []) := by
  obtain ⟨hx, hb, hr, hml, hown, -, hX, hbl, hlocks, -⟩ := C0
  have hown : s.vm.findClass RL = some m.cls := hown
  have hK := hO.1
  have hts : ∀ w ∈ lw_E, w.before #[Value.ref b] s = true := fun w h => hO.2 w h _
  have hA : ∀ q, s.heap.size ≤ q → A q := fun q h => by rw [hAe]; exact h
  have hbA : ¬ A b := by rw [hAe]; exact Nat.not_le.mpr hbl
  obtain ⟨hCI, h3, hRM, h19, hMX, hcp, h54⟩ := id hI
  obtain ⟨hT1, hW, hfl, -, hWL, -⟩ := id hCI
  obtain ⟨hc1, hc2⟩ := isCap_b hcp
  refine lv_aload_n hx hb dL_law_175 rfl (lv_at hl 1 rfl) ?_
  refine lv_aload_n hx hb dL_law_176 rfl (lv_at hl 0 rfl) ?_
  refine lv_iload_n hx hb dL_law_177 rfl (lv_at hl 3 rfl) ?_
  refine lv_iconst (v := 1) hx hb dL_law_178 (by decide) ?_
  refine lv_iadd hx hb dL_law_179 ?_
  refine lv_topi (fun v179 ev179 => ?_)
  obtain rfl : v179 = (nI (i + 1)) := by rw [ev179, show (1 : Int32) = nI 1 from rfl, nI_add]
  refine va_sld hx hb hX hbl hbA hS (vp_in_nI (by omega) (by omega)) dL_law_180 ?_
  rw [nI_clamp (n := i + 1) (by omega)]
  refine lv_aload_n hx hb dL_law_181 rfl (lv_at hl 0 rfl) ?_
  refine lv_iload_n hx hb dL_law_182 rfl (lv_at hl 3 rfl) ?_
  refine lv_iconst (v := 2) hx hb dL_law_183 (by decide) ?_
  refine lv_iadd hx hb dL_law_184 ?_
  refine lv_topi (fun v184 ev184 => ?_)
  obtain rfl : v184 = (nI (i + 2)) := by rw [ev184, show (2 : Int32) = nI 2 from rfl, nI_add]
  refine va_sld hx hb hX hbl hbA hS (vp_in_nI (by omega) (by omega)) dL_law_185 ?_
  rw [nI_clamp (n := i + 2) (by omega)]
  refine wk_i (Wf := Wt y) (run_v (As := [.int (xs (i + 1)), .int (xs (i + 2))]) (rest := []) (b := (ad 0)) hx hb hml hown hO.2 (c_X8_label l D y ad cap I J H.size hT1 hW (xs (i + 1)) (xs (i + 2))) k_X8_label ml_L_18 ⟨rfl, rfl⟩ ⟨Nat.le_of_ble_eq_true rfl, Nat.le_of_ble_eq_true rfl⟩ (pre_VW hO hP hD (wd_0 y ad cap I J) rfl) rfl hl.1 rfl (Nat.le_of_ble_eq_true rfl) dL_law_186 ⟨(by show 87 + (cap 0 - 16) + 0 ≤ 600000; omega), (by show 24606 + 50 * (cap 0 - 16) + 0 ≤ 7302250; omega)⟩) hD hS hA (fun r186 u186 H locs hp186 hP hD hS => ?_)
  try dsimp only at hp186
  obtain ⟨I186, rfl, hE186, hv186, hn186⟩ := hp186
  have hM186 := RM_keep hRM (fun j hj => hE186 j (by simp; omega))
  have hP : va_P D vwCl (Wd y ad cap I186 J) H := hP
  have hD : va_D A (Wd y ad cap I186 J) := hD
  refine lv_aload_n hx hb dL_law_189 rfl (lv_at hl 2 rfl) ?_
  refine lv_aload_n hx hb dL_law_190 rfl (lv_at hl 0 rfl) ?_
  refine lv_iload_n hx hb dL_law_191 rfl (lv_at hl 3 rfl) ?_
  refine lv_iconst (v := 1) hx hb dL_law_192 (by decide) ?_
  refine lv_iadd hx hb dL_law_193 ?_
  refine lv_topi (fun v193 ev193 => ?_)
  obtain rfl : v193 = (nI (i + 1)) := by rw [ev193, show (1 : Int32) = nI 1 from rfl, nI_add]
  refine va_sld hx hb hX hbl hbA hS (vp_in_nI (by omega) (by omega)) dL_law_194 ?_
  rw [nI_clamp (n := i + 1) (by omega)]
  refine lv_aload_n hx hb dL_law_195 rfl (lv_at hl 0 rfl) ?_
  refine lv_iload_n hx hb dL_law_196 rfl (lv_at hl 3 rfl) ?_
  refine lv_iconst (v := 2) hx hb dL_law_197 (by decide) ?_
  refine lv_iadd hx hb dL_law_198 ?_
  refine lv_topi (fun v198 ev198 => ?_)
  obtain rfl : v198 = (nI (i + 2)) := by rw [ev198, show (2 : Int32) = nI 2 from rfl, nI_add]
  refine va_sld hx hb hX hbl hbA hS (vp_in_nI (by omega) (by omega)) dL_law_199 ?_
  rw [nI_clamp (n := i + 2) (by omega)]
  refine wk_i (Wf := Wt y) (run_v (As := [.int (xs (i + 1)), .int (xs (i + 2))]) (rest := [.int r186]) (b := (ad 55)) hx hb hml hown hO.2 (c_X9_label l D y ad cap I186 J H.size hM186 hW (xs (i + 1)) (xs (i + 2))) k_X9_label ml_L_22 ⟨rfl, rfl⟩ ⟨Nat.le_of_ble_eq_true rfl, Nat.le_of_ble_eq_true rfl⟩ (pre_VW hO hP hD (wd_55 y ad cap I186 J) rfl) rfl hl.1 rfl (Nat.le_of_ble_eq_true rfl) dL_law_200 ⟨(by show 87 + (cap 0 - 16) + 0 ≤ 600000; omega), (by show 24606 + 50 * (cap 0 - 16) + 0 ≤ 7302250; omega)⟩) hD hS hA (fun r200 u200 H locs hp200 hP hD hS => ?_)
  try dsimp only at hp200
  obtain ⟨I200, rfl, hv200, hn200⟩ := hp200
  have hP : va_P D vwCl (Wd y ad cap I200 J) H := hP
  have hD : va_D A (Wd y ad cap I200 J) := hD
  have hq : r186 = r200 ∧ ∃ (T' : Nat → Nat → Nat) (fl' : Nat), Inv I200 J (cap 0) T' fl' TL M R := by
    by_cases hV : labV T (xs (i + 1)) (xs (i + 2))
    · obtain ⟨e1, e2, e3⟩ := hv186 hV
      obtain ⟨e4, e5, e6, e7, e8⟩ := hv200 hV
      have hwf := wf_l hW h3 hV
      exact ⟨e1.trans e4.symm, _, 1, Inv_tell hI (fun j hj => hE186 j (by simp; omega)) e2 e3 (fun j hj => e6 j (by simp; omega)) e7 e5 e8 hwf.1 hwf.2⟩
    · obtain ⟨e1, e2⟩ := hn186 hV
      obtain ⟨e3, e4⟩ := hn200 hV
      exact ⟨e1.trans e3.symm, T, fl, by rw [e4, e2]; exact hI⟩
  obtain ⟨hq1, T9, fl9, hI9⟩ := hq
  refine lv_icmp_eq (tgt := 695) hx hb dL_law_203 (by decide) (fun c203 => ?_) (fun c203 => ?_)
  · skip
    exact kk cap I200 J _ _ _ _ _ _ _ ls hI9 hP hD hS (by exact lv_sub hl [0, 1, 2, 3] rfl)
  · skip
    exact absurd hq1 c203
set_option maxHeartbeats 4000000 in
set_option maxRecDepth 100000 in
theorem law_2 {p : Program} {l : Launch} {e : Env} {s : State} {m : MethodId} {below : List Frame} {meth : Method} {c : Code} {D : va_G} {y : Nat → ClassId} {b L : Nat} {xs : Nat → Int32} (hL : L ≤ 2560) (C0 : lw_At p s m meth c b L xs) (hO : Ok D y s) {A : Nat → Prop} (hAe : A = fun q => s.heap.size ≤ q) {i : Nat} (hi : i + 5 ≤ L) (ad : Nat → Nat) (cap : Nat → Nat) (I : Nat → Nat → Int32) (J : Nat → Nat → Int64) (T : Nat → Nat → Nat) (fl : Nat) (TL : Nat → Nat → Nat) (M : List Th) (R : Nat) (hI : Inv I J (cap 0) T fl TL M R) {H : Heap} {locs : List Loc} (hP : va_P D vwCl (Wd y ad cap I J) H) (hD : va_D A (Wd y ad cap I J)) (hS : va_S A s.heap H locs) {ls : Array Slot} (hl : lv_has ls 4 [(0, .ref b), (1, .ref (ad 0)), (2, .ref (ad 55)), (3, .int (nI i))]) (kk : ∀ (cap' : Nat → Nat) (I' : Nat → Nat → Int32) (J' : Nat → Nat → Int64) (T' : Nat → Nat → Nat) (fl' : Nat) (TL' : Nat → Nat → Nat) (M' : List Th) (R' : Nat) (H' : Heap) (locs' : List Loc) (ls' : Array Slot), Inv I' J' (cap' 0) T' fl' TL' M' R' → va_P D vwCl (Wd y ad cap' I' J') H' → va_D A (Wd y ad cap' I' J') → va_S A s.heap H' locs' → lv_has ls' 4 [(0, .ref b), (1, .ref (ad 0)), (2, .ref (ad 55)), (3, .int (nI i))] → W p l e room_1 s m #[Value.ref b] below meth c H' locs' (87 + (cap' 0 - 16)) (24606 + 50 * (cap' 0 - 16)) (lw_Z below #[Value.ref b] s) (F0 m 695 ls' [])) : W p l e room_1 s m #[Value.ref b] below meth c H locs (87 + (cap 0 - 16)) (24606 + 50 * (cap 0 - 16)) (lw_Z below #[Value.ref b] s) (F0 m 208 ls []) := by
  obtain ⟨hx, hb, hr, hml, hown, -, hX, hbl, hlocks, -⟩ := C0
  have hown : s.vm.findClass RL = some m.cls := hown
  have hK := hO.1
  have hts : ∀ w ∈ lw_E, w.before #[Value.ref b] s = true := fun w h => hO.2 w h _
  have hA : ∀ q, s.heap.size ≤ q → A q := fun q h => by rw [hAe]; exact h
  have hbA : ¬ A b := by rw [hAe]; exact Nat.not_le.mpr hbl
  obtain ⟨hCI, h3, hRM, h19, hMX, hcp, h54⟩ := id hI
  obtain ⟨hT1, hW, hfl, -, hWL, -⟩ := id hCI
  obtain ⟨hc1, hc2⟩ := isCap_b hcp
  refine lv_aload_n hx hb dL_law_208 rfl (lv_at hl 1 rfl) ?_
  refine lv_aload_n hx hb dL_law_209 rfl (lv_at hl 0 rfl) ?_
  refine lv_iload_n hx hb dL_law_210 rfl (lv_at hl 3 rfl) ?_
  refine lv_iconst (v := 1) hx hb dL_law_211 (by decide) ?_
  refine lv_iadd hx hb dL_law_212 ?_
  refine lv_topi (fun v212 ev212 => ?_)
  obtain rfl : v212 = (nI (i + 1)) := by rw [ev212, show (1 : Int32) = nI 1 from rfl, nI_add]
  refine va_sld hx hb hX hbl hbA hS (vp_in_nI (by omega) (by omega)) dL_law_213 ?_
  rw [nI_clamp (n := i + 1) (by omega)]
  refine lv_aload_n hx hb dL_law_214 rfl (lv_at hl 0 rfl) ?_
  refine lv_iload_n hx hb dL_law_215 rfl (lv_at hl 3 rfl) ?_
  refine lv_iconst (v := 2) hx hb dL_law_216 (by decide) ?_
  refine lv_iadd hx hb dL_law_217 ?_
  refine lv_topi (fun v217 ev217 => ?_)
  obtain rfl : v217 = (nI (i + 2)) := by rw [ev217, show (2 : Int32) = nI 2 from rfl, nI_add]
  refine va_sld hx hb hX hbl hbA hS (vp_in_nI (by omega) (by omega)) dL_law_218 ?_
  rw [nI_clamp (n := i + 2) (by omega)]
  refine lv_aload_n hx hb dL_law_219 rfl (lv_at hl 0 rfl) ?_
  refine lv_iload_n hx hb dL_law_220 rfl (lv_at hl 3 rfl) ?_
  refine lv_iconst (v := 3) hx hb dL_law_221 (by decide) ?_
  refine lv_iadd hx hb dL_law_222 ?_
  refine lv_topi (fun v222 ev222 => ?_)
  obtain rfl : v222 = (nI (i + 3)) := by rw [ev222, show (3 : Int32) = nI 3 from rfl, nI_add]
  refine va_sld hx hb hX hbl hbA hS (vp_in_nI (by omega) (by omega)) dL_law_223 ?_
  rw [nI_clamp (n := i + 3) (by omega)]
  refine wk_i (Wf := Wt y) (run_v (As := [.int (xs (i + 1)), .int (xs (i + 2)), .int (xs (i + 3))]) (rest := []) (b := (ad 0)) hx hb hml hown hO.2 (c_X8_kind l D y ad cap I J H.size hT1 hW (xs (i + 1)) (xs (i + 2)) (xs (i + 3))) k_X8_kind ml_L_23 ⟨rfl, rfl⟩ ⟨Nat.le_of_ble_eq_true rfl, Nat.le_of_ble_eq_true rfl⟩ (pre_VW hO hP hD (wd_0 y ad cap I J) rfl) rfl hl.1 rfl (Nat.le_of_ble_eq_true rfl) dL_law_224 ⟨(by show 87 + (cap 0 - 16) + 0 ≤ 600000; omega), (by show 24606 + 50 * (cap 0 - 16) + 0 ≤ 7302250; omega)⟩) hD hS hA (fun r224 u224 H locs hp224 hP hD hS => ?_)
  try dsimp only at hp224
  obtain ⟨I224, rfl, hE224, hv224, hn224⟩ := hp224
  have hM224 := RM_keep hRM (fun j hj => hE224 j (by simp; omega))
  have hP : va_P D vwCl (Wd y ad cap I224 J) H := hP
  have hD : va_D A (Wd y ad cap I224 J) := hD
  refine lv_aload_n hx hb dL_law_227 rfl (lv_at hl 2 rfl) ?_
  refine lv_aload_n hx hb dL_law_228 rfl (lv_at hl 0 rfl) ?_
  refine lv_iload_n hx hb dL_law_229 rfl (lv_at hl 3 rfl) ?_
  refine lv_iconst (v := 1) hx hb dL_law_230 (by decide) ?_
  refine lv_iadd hx hb dL_law_231 ?_
  refine lv_topi (fun v231 ev231 => ?_)
  obtain rfl : v231 = (nI (i + 1)) := by rw [ev231, show (1 : Int32) = nI 1 from rfl, nI_add]
  refine va_sld hx hb hX hbl hbA hS (vp_in_nI (by omega) (by omega)) dL_law_232 ?_
  rw [nI_clamp (n := i + 1) (by omega)]
  refine lv_aload_n hx hb dL_law_233 rfl (lv_at hl 0 rfl) ?_
  refine lv_iload_n hx hb dL_law_234 rfl (lv_at hl 3 rfl) ?_
  refine lv_iconst (v := 2) hx hb dL_law_235 (by decide) ?_
  refine lv_iadd hx hb dL_law_236 ?_
  refine lv_topi (fun v236 ev236 => ?_)
  obtain rfl : v236 = (nI (i + 2)) := by rw [ev236, show (2 : Int32) = nI 2 from rfl, nI_add]
  refine va_sld hx hb hX hbl hbA hS (vp_in_nI (by omega) (by omega)) dL_law_237 ?_
  rw [nI_clamp (n := i + 2) (by omega)]
  refine lv_aload_n hx hb dL_law_238 rfl (lv_at hl 0 rfl) ?_
  refine lv_iload_n hx hb dL_law_239 rfl (lv_at hl 3 rfl) ?_
  refine lv_iconst (v := 3) hx hb dL_law_240 (by decide) ?_
  refine lv_iadd hx hb dL_law_241 ?_
  refine lv_topi (fun v241 ev241 => ?_)
  obtain rfl : v241 = (nI (i + 3)) := by rw [ev241, show (3 : Int32) = nI 3 from rfl, nI_add]
  refine va_sld hx hb hX hbl hbA hS (vp_in_nI (by omega) (by omega)) dL_law_242 ?_
  rw [nI_clamp (n := i + 3) (by omega)]
  refine wk_i (Wf := Wt y) (run_v (As := [.int (xs (i + 1)), .int (xs (i + 2)), .int (xs (i + 3))]) (rest := [.int r224]) (b := (ad 55)) hx hb hml hown hO.2 (c_X9_kind l D y ad cap I224 J H.size hM224 hW (xs (i + 1)) (xs (i + 2)) (xs (i + 3))) k_X9_kind ml_L_27 ⟨rfl, rfl⟩ ⟨Nat.le_of_ble_eq_true rfl, Nat.le_of_ble_eq_true rfl⟩ (pre_VW hO hP hD (wd_55 y ad cap I224 J) rfl) rfl hl.1 rfl (Nat.le_of_ble_eq_true rfl) dL_law_243 ⟨(by show 87 + (cap 0 - 16) + 0 ≤ 600000; omega), (by show 24606 + 50 * (cap 0 - 16) + 0 ≤ 7302250; omega)⟩) hD hS hA (fun r243 u243 H locs hp243 hP hD hS => ?_)
  try dsimp only at hp243
  obtain ⟨I243, rfl, hv243, hn243⟩ := hp243
  have hP : va_P D vwCl (Wd y ad cap I243 J) H := hP
  have hD : va_D A (Wd y ad cap I243 J) := hD
  have hq : r224 = r243 ∧ ∃ (T' : Nat → Nat → Nat) (fl' : Nat), Inv I243 J (cap 0) T' fl' TL M R := by
    by_cases hV : kndV (xs (i + 1)) (xs (i + 2)) (xs (i + 3))
    · obtain ⟨e1, e2, e3⟩ := hv224 hV
      obtain ⟨e4, e5, e6, e7, e8⟩ := hv243 hV
      have hwf := wf_k hW h3 hV
      exact ⟨e1.trans e4.symm, _, 1, Inv_tell hI (fun j hj => hE224 j (by simp; omega)) e2 e3 (fun j hj => e6 j (by simp; omega)) e7 e5 e8 hwf.1 hwf.2⟩
    · obtain ⟨e1, e2⟩ := hn224 hV
      obtain ⟨e3, e4⟩ := hn243 hV
      exact ⟨e1.trans e3.symm, T, fl, by rw [e4, e2]; exact hI⟩
  obtain ⟨hq1, T9, fl9, hI9⟩ := hq
  refine lv_icmp_eq (tgt := 695) hx hb dL_law_246 (by decide) (fun c246 => ?_) (fun c246 => ?_)
  · skip
    exact kk cap I243 J _ _ _ _ _ _ _ ls hI9 hP hD hS (by exact lv_sub hl [0, 1, 2, 3] rfl)
  · skip
    exact absurd hq1 c246
set_option maxHeartbeats 4000000 in
set_option maxRecDepth 100000 in
theorem law_3 {p : Program} {l : Launch} {e : Env} {s : State} {m : MethodId} {below : List Frame} {meth : Method} {c : Code} {D : va_G} {y : Nat → ClassId} {b L : Nat} {xs : Nat → Int32} (hL : L ≤ 2560) (C0 : lw_At p s m meth c b L xs) (hO : Ok D y s) {A : Nat → Prop} (hAe : A = fun q => s.heap.size ≤ q) {i : Nat} (hi : i + 5 ≤ L) (ad : Nat → Nat) (cap : Nat → Nat) (I : Nat → Nat → Int32) (J : Nat → Nat → Int64) (T : Nat → Nat → Nat) (fl : Nat) (TL : Nat → Nat → Nat) (M : List Th) (R : Nat) (hI : Inv I J (cap 0) T fl TL M R) {H : Heap} {locs : List Loc} (hP : va_P D vwCl (Wd y ad cap I J) H) (hD : va_D A (Wd y ad cap I J)) (hS : va_S A s.heap H locs) {ls : Array Slot} (hl : lv_has ls 4 [(0, .ref b), (1, .ref (ad 0)), (2, .ref (ad 55)), (3, .int (nI i))]) (kk : ∀ (cap' : Nat → Nat) (I' : Nat → Nat → Int32) (J' : Nat → Nat → Int64) (T' : Nat → Nat → Nat) (fl' : Nat) (TL' : Nat → Nat → Nat) (M' : List Th) (R' : Nat) (H' : Heap) (locs' : List Loc) (ls' : Array Slot), Inv I' J' (cap' 0) T' fl' TL' M' R' → va_P D vwCl (Wd y ad cap' I' J') H' → va_D A (Wd y ad cap' I' J') → va_S A s.heap H' locs' → lv_has ls' 4 [(0, .ref b), (1, .ref (ad 0)), (2, .ref (ad 55)), (3, .int (nI i))] → W p l e room_1 s m #[Value.ref b] below meth c H' locs' (87 + (cap' 0 - 16)) (24606 + 50 * (cap' 0 - 16)) (lw_Z below #[Value.ref b] s) (F0 m 695 ls' [])) : W p l e room_1 s m #[Value.ref b] below meth c H locs (87 + (cap 0 - 16)) (24606 + 50 * (cap 0 - 16)) (lw_Z below #[Value.ref b] s) (F0 m 251 ls []) := by
  obtain ⟨hx, hb, hr, hml, hown, -, hX, hbl, hlocks, -⟩ := C0
  have hown : s.vm.findClass RL = some m.cls := hown
  have hK := hO.1
  have hts : ∀ w ∈ lw_E, w.before #[Value.ref b] s = true := fun w h => hO.2 w h _
  have hA : ∀ q, s.heap.size ≤ q → A q := fun q h => by rw [hAe]; exact h
  have hbA : ¬ A b := by rw [hAe]; exact Nat.not_le.mpr hbl
  obtain ⟨hCI, h3, hRM, h19, hMX, hcp, h54⟩ := id hI
  obtain ⟨hT1, hW, hfl, -, hWL, -⟩ := id hCI
  obtain ⟨hc1, hc2⟩ := isCap_b hcp
  refine lv_aload_n hx hb dL_law_251 rfl (lv_at hl 1 rfl) ?_
  refine lv_aload_n hx hb dL_law_252 rfl (lv_at hl 0 rfl) ?_
  refine lv_iload_n hx hb dL_law_253 rfl (lv_at hl 3 rfl) ?_
  refine lv_iconst (v := 1) hx hb dL_law_254 (by decide) ?_
  refine lv_iadd hx hb dL_law_255 ?_
  refine lv_topi (fun v255 ev255 => ?_)
  obtain rfl : v255 = (nI (i + 1)) := by rw [ev255, show (1 : Int32) = nI 1 from rfl, nI_add]
  refine va_sld hx hb hX hbl hbA hS (vp_in_nI (by omega) (by omega)) dL_law_256 ?_
  rw [nI_clamp (n := i + 1) (by omega)]
  refine lv_aload_n hx hb dL_law_257 rfl (lv_at hl 0 rfl) ?_
  refine lv_iload_n hx hb dL_law_258 rfl (lv_at hl 3 rfl) ?_
  refine lv_iconst (v := 2) hx hb dL_law_259 (by decide) ?_
  refine lv_iadd hx hb dL_law_260 ?_
  refine lv_topi (fun v260 ev260 => ?_)
  obtain rfl : v260 = (nI (i + 2)) := by rw [ev260, show (2 : Int32) = nI 2 from rfl, nI_add]
  refine va_sld hx hb hX hbl hbA hS (vp_in_nI (by omega) (by omega)) dL_law_261 ?_
  rw [nI_clamp (n := i + 2) (by omega)]
  refine lv_aload_n hx hb dL_law_262 rfl (lv_at hl 0 rfl) ?_
  refine lv_iload_n hx hb dL_law_263 rfl (lv_at hl 3 rfl) ?_
  refine lv_iconst (v := 3) hx hb dL_law_264 (by decide) ?_
  refine lv_iadd hx hb dL_law_265 ?_
  refine lv_topi (fun v265 ev265 => ?_)
  obtain rfl : v265 = (nI (i + 3)) := by rw [ev265, show (3 : Int32) = nI 3 from rfl, nI_add]
  refine va_sld hx hb hX hbl hbA hS (vp_in_nI (by omega) (by omega)) dL_law_266 ?_
  rw [nI_clamp (n := i + 3) (by omega)]
  refine lv_aload_n hx hb dL_law_267 rfl (lv_at hl 0 rfl) ?_
  refine lv_iload_n hx hb dL_law_268 rfl (lv_at hl 3 rfl) ?_
  refine lv_iconst (v := 4) hx hb dL_law_269 (by decide) ?_
  refine lv_iadd hx hb dL_law_270 ?_
  refine lv_topi (fun v270 ev270 => ?_)
  obtain rfl : v270 = (nI (i + 4)) := by rw [ev270, show (4 : Int32) = nI 4 from rfl, nI_add]
  refine va_sld hx hb hX hbl hbA hS (vp_in_nI (by omega) (by omega)) dL_law_271 ?_
  rw [nI_clamp (n := i + 4) (by omega)]
  refine wk_i (Wf := Wt y) (run_v (As := [.int (xs (i + 1)), .int (xs (i + 2)), .int (xs (i + 3)), .int (xs (i + 4))]) (rest := []) (b := (ad 0)) hx hb hml hown hO.2 (c_X8_branch l D y ad cap I J H.size hT1 hW (xs (i + 1)) (xs (i + 2)) (xs (i + 3)) (xs (i + 4))) k_X8_branch ml_L_28 ⟨rfl, rfl⟩ ⟨Nat.le_of_ble_eq_true rfl, Nat.le_of_ble_eq_true rfl⟩ (pre_VW hO hP hD (wd_0 y ad cap I J) rfl) rfl hl.1 rfl (Nat.le_of_ble_eq_true rfl) dL_law_272 ⟨(by show 87 + (cap 0 - 16) + 0 ≤ 600000; omega), (by show 24606 + 50 * (cap 0 - 16) + 0 ≤ 7302250; omega)⟩) hD hS hA (fun r272 u272 H locs hp272 hP hD hS => ?_)
  try dsimp only at hp272
  obtain ⟨I272, rfl, hE272, hv272, hn272⟩ := hp272
  have hM272 := RM_keep hRM (fun j hj => hE272 j (by simp; omega))
  have hP : va_P D vwCl (Wd y ad cap I272 J) H := hP
  have hD : va_D A (Wd y ad cap I272 J) := hD
  refine lv_aload_n hx hb dL_law_275 rfl (lv_at hl 2 rfl) ?_
  refine lv_aload_n hx hb dL_law_276 rfl (lv_at hl 0 rfl) ?_
  refine lv_iload_n hx hb dL_law_277 rfl (lv_at hl 3 rfl) ?_
  refine lv_iconst (v := 1) hx hb dL_law_278 (by decide) ?_
  refine lv_iadd hx hb dL_law_279 ?_
  refine lv_topi (fun v279 ev279 => ?_)
  obtain rfl : v279 = (nI (i + 1)) := by rw [ev279, show (1 : Int32) = nI 1 from rfl, nI_add]
  refine va_sld hx hb hX hbl hbA hS (vp_in_nI (by omega) (by omega)) dL_law_280 ?_
  rw [nI_clamp (n := i + 1) (by omega)]
  refine lv_aload_n hx hb dL_law_281 rfl (lv_at hl 0 rfl) ?_
  refine lv_iload_n hx hb dL_law_282 rfl (lv_at hl 3 rfl) ?_
  refine lv_iconst (v := 2) hx hb dL_law_283 (by decide) ?_
  refine lv_iadd hx hb dL_law_284 ?_
  refine lv_topi (fun v284 ev284 => ?_)
  obtain rfl : v284 = (nI (i + 2)) := by rw [ev284, show (2 : Int32) = nI 2 from rfl, nI_add]
  refine va_sld hx hb hX hbl hbA hS (vp_in_nI (by omega) (by omega)) dL_law_285 ?_
  rw [nI_clamp (n := i + 2) (by omega)]
  refine lv_aload_n hx hb dL_law_286 rfl (lv_at hl 0 rfl) ?_
  refine lv_iload_n hx hb dL_law_287 rfl (lv_at hl 3 rfl) ?_
  refine lv_iconst (v := 3) hx hb dL_law_288 (by decide) ?_
  refine lv_iadd hx hb dL_law_289 ?_
  refine lv_topi (fun v289 ev289 => ?_)
  obtain rfl : v289 = (nI (i + 3)) := by rw [ev289, show (3 : Int32) = nI 3 from rfl, nI_add]
  refine va_sld hx hb hX hbl hbA hS (vp_in_nI (by omega) (by omega)) dL_law_290 ?_
  rw [nI_clamp (n := i + 3) (by omega)]
  refine lv_aload_n hx hb dL_law_291 rfl (lv_at hl 0 rfl) ?_
  refine lv_iload_n hx hb dL_law_292 rfl (lv_at hl 3 rfl) ?_
  refine lv_iconst (v := 4) hx hb dL_law_293 (by decide) ?_
  refine lv_iadd hx hb dL_law_294 ?_
  refine lv_topi (fun v294 ev294 => ?_)
  obtain rfl : v294 = (nI (i + 4)) := by rw [ev294, show (4 : Int32) = nI 4 from rfl, nI_add]
  refine va_sld hx hb hX hbl hbA hS (vp_in_nI (by omega) (by omega)) dL_law_295 ?_
  rw [nI_clamp (n := i + 4) (by omega)]
  refine wk_i (Wf := Wt y) (run_v (As := [.int (xs (i + 1)), .int (xs (i + 2)), .int (xs (i + 3)), .int (xs (i + 4))]) (rest := [.int r272]) (b := (ad 55)) hx hb hml hown hO.2 (c_X9_branch l D y ad cap I272 J H.size hM272 hW (xs (i + 1)) (xs (i + 2)) (xs (i + 3)) (xs (i + 4))) k_X9_branch ml_L_32 ⟨rfl, rfl⟩ ⟨Nat.le_of_ble_eq_true rfl, Nat.le_of_ble_eq_true rfl⟩ (pre_VW hO hP hD (wd_55 y ad cap I272 J) rfl) rfl hl.1 rfl (Nat.le_of_ble_eq_true rfl) dL_law_296 ⟨(by show 87 + (cap 0 - 16) + 0 ≤ 600000; omega), (by show 24606 + 50 * (cap 0 - 16) + 0 ≤ 7302250; omega)⟩) hD hS hA (fun r296 u296 H locs hp296 hP hD hS => ?_)
  try dsimp only at hp296
  obtain ⟨I296, rfl, hv296, hn296⟩ := hp296
  have hP : va_P D vwCl (Wd y ad cap I296 J) H := hP
  have hD : va_D A (Wd y ad cap I296 J) := hD
  have hq : r272 = r296 ∧ ∃ (T' : Nat → Nat → Nat) (fl' : Nat), Inv I296 J (cap 0) T' fl' TL M R := by
    by_cases hV : braV T (xs (i + 1)) (xs (i + 2)) (xs (i + 3)) (xs (i + 4))
    · obtain ⟨e1, e2, e3⟩ := hv272 hV
      obtain ⟨e4, e5, e6, e7, e8⟩ := hv296 hV
      have hwf := wf_b hW h3 hV
      exact ⟨e1.trans e4.symm, _, 1, Inv_tell hI (fun j hj => hE272 j (by simp; omega)) e2 e3 (fun j hj => e6 j (by simp; omega)) e7 e5 e8 hwf.1 hwf.2⟩
    · obtain ⟨e1, e2⟩ := hn272 hV
      obtain ⟨e3, e4⟩ := hn296 hV
      exact ⟨e1.trans e3.symm, T, fl, by rw [e4, e2]; exact hI⟩
  obtain ⟨hq1, T9, fl9, hI9⟩ := hq
  refine lv_icmp_eq (tgt := 695) hx hb dL_law_299 (by decide) (fun c299 => ?_) (fun c299 => ?_)
  · skip
    exact kk cap I296 J _ _ _ _ _ _ _ ls hI9 hP hD hS (by exact lv_sub hl [0, 1, 2, 3] rfl)
  · skip
    exact absurd hq1 c299
set_option maxHeartbeats 4000000 in
set_option maxRecDepth 100000 in
theorem law_4 {p : Program} {l : Launch} {e : Env} {s : State} {m : MethodId} {below : List Frame} {meth : Method} {c : Code} {D : va_G} {y : Nat → ClassId} {b L : Nat} {xs : Nat → Int32} (hL : L ≤ 2560) (C0 : lw_At p s m meth c b L xs) (hO : Ok D y s) {A : Nat → Prop} (hAe : A = fun q => s.heap.size ≤ q) {i : Nat} (hi : i + 5 ≤ L) (ad : Nat → Nat) (cap : Nat → Nat) (I : Nat → Nat → Int32) (J : Nat → Nat → Int64) (T : Nat → Nat → Nat) (fl : Nat) (TL : Nat → Nat → Nat) (M : List Th) (R : Nat) (hI : Inv I J (cap 0) T fl TL M R) {H : Heap} {locs : List Loc} (hP : va_P D vwCl (Wd y ad cap I J) H) (hD : va_D A (Wd y ad cap I J)) (hS : va_S A s.heap H locs) {ls : Array Slot} (hl : lv_has ls 4 [(0, .ref b), (1, .ref (ad 0)), (2, .ref (ad 55)), (3, .int (nI i))]) (kk : ∀ (cap' : Nat → Nat) (I' : Nat → Nat → Int32) (J' : Nat → Nat → Int64) (T' : Nat → Nat → Nat) (fl' : Nat) (TL' : Nat → Nat → Nat) (M' : List Th) (R' : Nat) (H' : Heap) (locs' : List Loc) (ls' : Array Slot), Inv I' J' (cap' 0) T' fl' TL' M' R' → va_P D vwCl (Wd y ad cap' I' J') H' → va_D A (Wd y ad cap' I' J') → va_S A s.heap H' locs' → lv_has ls' 4 [(0, .ref b), (1, .ref (ad 0)), (2, .ref (ad 55)), (3, .int (nI i))] → W p l e room_1 s m #[Value.ref b] below meth c H' locs' (87 + (cap' 0 - 16)) (24606 + 50 * (cap' 0 - 16)) (lw_Z below #[Value.ref b] s) (F0 m 695 ls' [])) : W p l e room_1 s m #[Value.ref b] below meth c H locs (87 + (cap 0 - 16)) (24606 + 50 * (cap 0 - 16)) (lw_Z below #[Value.ref b] s) (F0 m 304 ls []) := by
  obtain ⟨hx, hb, hr, hml, hown, -, hX, hbl, hlocks, -⟩ := C0
  have hown : s.vm.findClass RL = some m.cls := hown
  have hK := hO.1
  have hts : ∀ w ∈ lw_E, w.before #[Value.ref b] s = true := fun w h => hO.2 w h _
  have hA : ∀ q, s.heap.size ≤ q → A q := fun q h => by rw [hAe]; exact h
  have hbA : ¬ A b := by rw [hAe]; exact Nat.not_le.mpr hbl
  obtain ⟨hCI, h3, hRM, h19, hMX, hcp, h54⟩ := id hI
  obtain ⟨hT1, hW, hfl, -, hWL, -⟩ := id hCI
  obtain ⟨hc1, hc2⟩ := isCap_b hcp
  refine lv_aload_n hx hb dL_law_304 rfl (lv_at hl 1 rfl) ?_
  refine lv_aload_n hx hb dL_law_305 rfl (lv_at hl 0 rfl) ?_
  refine lv_iload_n hx hb dL_law_306 rfl (lv_at hl 3 rfl) ?_
  refine lv_iconst (v := 1) hx hb dL_law_307 (by decide) ?_
  refine lv_iadd hx hb dL_law_308 ?_
  refine lv_topi (fun v308 ev308 => ?_)
  obtain rfl : v308 = (nI (i + 1)) := by rw [ev308, show (1 : Int32) = nI 1 from rfl, nI_add]
  refine va_sld hx hb hX hbl hbA hS (vp_in_nI (by omega) (by omega)) dL_law_309 ?_
  rw [nI_clamp (n := i + 1) (by omega)]
  refine lv_aload_n hx hb dL_law_310 rfl (lv_at hl 0 rfl) ?_
  refine lv_iload_n hx hb dL_law_311 rfl (lv_at hl 3 rfl) ?_
  refine lv_iconst (v := 2) hx hb dL_law_312 (by decide) ?_
  refine lv_iadd hx hb dL_law_313 ?_
  refine lv_topi (fun v313 ev313 => ?_)
  obtain rfl : v313 = (nI (i + 2)) := by rw [ev313, show (2 : Int32) = nI 2 from rfl, nI_add]
  refine va_sld hx hb hX hbl hbA hS (vp_in_nI (by omega) (by omega)) dL_law_314 ?_
  rw [nI_clamp (n := i + 2) (by omega)]
  refine lv_aload_n hx hb dL_law_315 rfl (lv_at hl 0 rfl) ?_
  refine lv_iload_n hx hb dL_law_316 rfl (lv_at hl 3 rfl) ?_
  refine lv_iconst (v := 3) hx hb dL_law_317 (by decide) ?_
  refine lv_iadd hx hb dL_law_318 ?_
  refine lv_topi (fun v318 ev318 => ?_)
  obtain rfl : v318 = (nI (i + 3)) := by rw [ev318, show (3 : Int32) = nI 3 from rfl, nI_add]
  refine va_sld hx hb hX hbl hbA hS (vp_in_nI (by omega) (by omega)) dL_law_319 ?_
  rw [nI_clamp (n := i + 3) (by omega)]
  refine wk_i (Wf := Wt y) (run_v (As := [.int (xs (i + 1)), .int (xs (i + 2)), .int (xs (i + 3))]) (rest := []) (b := (ad 0)) hx hb hml hown hO.2 (c_X8_thunks l D y ad cap I J H.size hT1 hW (xs (i + 1)) (xs (i + 2)) (xs (i + 3))) k_X8_thunks ml_L_33 ⟨rfl, rfl⟩ ⟨Nat.le_of_ble_eq_true rfl, Nat.le_of_ble_eq_true rfl⟩ (pre_VW hO hP hD (wd_0 y ad cap I J) rfl) rfl hl.1 rfl (Nat.le_of_ble_eq_true rfl) dL_law_320 ⟨(by show 87 + (cap 0 - 16) + 0 ≤ 600000; omega), (by show 24606 + 50 * (cap 0 - 16) + 0 ≤ 7302250; omega)⟩) hD hS hA (fun r320 u320 H locs hp320 hP hD hS => ?_)
  try dsimp only at hp320
  obtain ⟨I320, rfl, hE320, hv320, hn320⟩ := hp320
  have hM320 := RM_keep hRM (fun j hj => hE320 j (by simp; omega))
  have hP : va_P D vwCl (Wd y ad cap I320 J) H := hP
  have hD : va_D A (Wd y ad cap I320 J) := hD
  refine lv_aload_n hx hb dL_law_323 rfl (lv_at hl 2 rfl) ?_
  refine lv_aload_n hx hb dL_law_324 rfl (lv_at hl 0 rfl) ?_
  refine lv_iload_n hx hb dL_law_325 rfl (lv_at hl 3 rfl) ?_
  refine lv_iconst (v := 1) hx hb dL_law_326 (by decide) ?_
  refine lv_iadd hx hb dL_law_327 ?_
  refine lv_topi (fun v327 ev327 => ?_)
  obtain rfl : v327 = (nI (i + 1)) := by rw [ev327, show (1 : Int32) = nI 1 from rfl, nI_add]
  refine va_sld hx hb hX hbl hbA hS (vp_in_nI (by omega) (by omega)) dL_law_328 ?_
  rw [nI_clamp (n := i + 1) (by omega)]
  refine lv_aload_n hx hb dL_law_329 rfl (lv_at hl 0 rfl) ?_
  refine lv_iload_n hx hb dL_law_330 rfl (lv_at hl 3 rfl) ?_
  refine lv_iconst (v := 2) hx hb dL_law_331 (by decide) ?_
  refine lv_iadd hx hb dL_law_332 ?_
  refine lv_topi (fun v332 ev332 => ?_)
  obtain rfl : v332 = (nI (i + 2)) := by rw [ev332, show (2 : Int32) = nI 2 from rfl, nI_add]
  refine va_sld hx hb hX hbl hbA hS (vp_in_nI (by omega) (by omega)) dL_law_333 ?_
  rw [nI_clamp (n := i + 2) (by omega)]
  refine lv_aload_n hx hb dL_law_334 rfl (lv_at hl 0 rfl) ?_
  refine lv_iload_n hx hb dL_law_335 rfl (lv_at hl 3 rfl) ?_
  refine lv_iconst (v := 3) hx hb dL_law_336 (by decide) ?_
  refine lv_iadd hx hb dL_law_337 ?_
  refine lv_topi (fun v337 ev337 => ?_)
  obtain rfl : v337 = (nI (i + 3)) := by rw [ev337, show (3 : Int32) = nI 3 from rfl, nI_add]
  refine va_sld hx hb hX hbl hbA hS (vp_in_nI (by omega) (by omega)) dL_law_338 ?_
  rw [nI_clamp (n := i + 3) (by omega)]
  refine wk_i (Wf := Wt y) (run_v (As := [.int (xs (i + 1)), .int (xs (i + 2)), .int (xs (i + 3))]) (rest := [.int r320]) (b := (ad 55)) hx hb hml hown hO.2 (c_X9_thunks l D y ad cap I320 J H.size hM320 hW (xs (i + 1)) (xs (i + 2)) (xs (i + 3))) k_X9_thunks ml_L_36 ⟨rfl, rfl⟩ ⟨Nat.le_of_ble_eq_true rfl, Nat.le_of_ble_eq_true rfl⟩ (pre_VW hO hP hD (wd_55 y ad cap I320 J) rfl) rfl hl.1 rfl (Nat.le_of_ble_eq_true rfl) dL_law_339 ⟨(by show 87 + (cap 0 - 16) + 0 ≤ 600000; omega), (by show 24606 + 50 * (cap 0 - 16) + 0 ≤ 7302250; omega)⟩) hD hS hA (fun r339 u339 H locs hp339 hP hD hS => ?_)
  try dsimp only at hp339
  obtain ⟨I339, rfl, hv339, hn339⟩ := hp339
  have hP : va_P D vwCl (Wd y ad cap I339 J) H := hP
  have hD : va_D A (Wd y ad cap I339 J) := hD
  have hq : r320 = r339 ∧ ∃ (T' : Nat → Nat → Nat) (fl' : Nat), Inv I339 J (cap 0) T' fl' TL M R := by
    by_cases hV : thkV T (xs (i + 1)) (xs (i + 2)) (xs (i + 3))
    · obtain ⟨e1, e2, e3⟩ := hv320 hV
      obtain ⟨e4, e5, e6, e7, e8⟩ := hv339 hV
      have hwf := wf_t hW h3 hV
      exact ⟨e1.trans e4.symm, _, 1, Inv_tell hI (fun j hj => hE320 j (by simp; omega)) e2 e3 (fun j hj => e6 j (by simp; omega)) e7 e5 e8 hwf.1 hwf.2⟩
    · obtain ⟨e1, e2⟩ := hn320 hV
      obtain ⟨e3, e4⟩ := hn339 hV
      exact ⟨e1.trans e3.symm, T, fl, by rw [e4, e2]; exact hI⟩
  obtain ⟨hq1, T9, fl9, hI9⟩ := hq
  refine lv_icmp_eq (tgt := 695) hx hb dL_law_342 (by decide) (fun c342 => ?_) (fun c342 => ?_)
  · skip
    exact kk cap I339 J _ _ _ _ _ _ _ ls hI9 hP hD hS (by exact lv_sub hl [0, 1, 2, 3] rfl)
  · skip
    exact absurd hq1 c342
set_option maxHeartbeats 4000000 in
set_option maxRecDepth 100000 in
theorem law_5 {p : Program} {l : Launch} {e : Env} {s : State} {m : MethodId} {below : List Frame} {meth : Method} {c : Code} {D : va_G} {y : Nat → ClassId} {b L : Nat} {xs : Nat → Int32} (hL : L ≤ 2560) (C0 : lw_At p s m meth c b L xs) (hO : Ok D y s) {A : Nat → Prop} (hAe : A = fun q => s.heap.size ≤ q) {i : Nat} (hi : i + 5 ≤ L) (ad : Nat → Nat) (cap : Nat → Nat) (I : Nat → Nat → Int32) (J : Nat → Nat → Int64) (T : Nat → Nat → Nat) (fl : Nat) (TL : Nat → Nat → Nat) (M : List Th) (R : Nat) (hI : Inv I J (cap 0) T fl TL M R) {H : Heap} {locs : List Loc} (hP : va_P D vwCl (Wd y ad cap I J) H) (hD : va_D A (Wd y ad cap I J)) (hS : va_S A s.heap H locs) {ls : Array Slot} (hl : lv_has ls 4 [(0, .ref b), (1, .ref (ad 0)), (2, .ref (ad 55)), (3, .int (nI i))]) (kk : ∀ (cap' : Nat → Nat) (I' : Nat → Nat → Int32) (J' : Nat → Nat → Int64) (T' : Nat → Nat → Nat) (fl' : Nat) (TL' : Nat → Nat → Nat) (M' : List Th) (R' : Nat) (H' : Heap) (locs' : List Loc) (ls' : Array Slot), Inv I' J' (cap' 0) T' fl' TL' M' R' → va_P D vwCl (Wd y ad cap' I' J') H' → va_D A (Wd y ad cap' I' J') → va_S A s.heap H' locs' → lv_has ls' 4 [(0, .ref b), (1, .ref (ad 0)), (2, .ref (ad 55)), (3, .int (nI i))] → W p l e room_1 s m #[Value.ref b] below meth c H' locs' (87 + (cap' 0 - 16)) (24606 + 50 * (cap' 0 - 16)) (lw_Z below #[Value.ref b] s) (F0 m 695 ls' [])) : W p l e room_1 s m #[Value.ref b] below meth c H locs (87 + (cap 0 - 16)) (24606 + 50 * (cap 0 - 16)) (lw_Z below #[Value.ref b] s) (F0 m 347 ls []) := by
  obtain ⟨hx, hb, hr, hml, hown, -, hX, hbl, hlocks, -⟩ := C0
  have hown : s.vm.findClass RL = some m.cls := hown
  have hK := hO.1
  have hts : ∀ w ∈ lw_E, w.before #[Value.ref b] s = true := fun w h => hO.2 w h _
  have hA : ∀ q, s.heap.size ≤ q → A q := fun q h => by rw [hAe]; exact h
  have hbA : ¬ A b := by rw [hAe]; exact Nat.not_le.mpr hbl
  obtain ⟨hCI, h3, hRM, h19, hMX, hcp, h54⟩ := id hI
  obtain ⟨hT1, hW, hfl, -, hWL, -⟩ := id hCI
  obtain ⟨hc1, hc2⟩ := isCap_b hcp
  refine lv_aload_n hx hb dL_law_347 rfl (lv_at hl 1 rfl) ?_
  refine lv_aload_n hx hb dL_law_348 rfl (lv_at hl 0 rfl) ?_
  refine lv_iload_n hx hb dL_law_349 rfl (lv_at hl 3 rfl) ?_
  refine lv_iconst (v := 1) hx hb dL_law_350 (by decide) ?_
  refine lv_iadd hx hb dL_law_351 ?_
  refine lv_topi (fun v351 ev351 => ?_)
  obtain rfl : v351 = (nI (i + 1)) := by rw [ev351, show (1 : Int32) = nI 1 from rfl, nI_add]
  refine va_sld hx hb hX hbl hbA hS (vp_in_nI (by omega) (by omega)) dL_law_352 ?_
  rw [nI_clamp (n := i + 1) (by omega)]
  refine wk_i (Wf := Wt y) (run_v (As := [.int (xs (i + 1))]) (rest := []) (b := (ad 0)) hx hb hml hown hO.2 (c_X8_base l D y ad cap I J H.size hT1 hW (xs (i + 1))) k_X8_base ml_L_37 ⟨rfl, rfl⟩ ⟨Nat.le_of_ble_eq_true rfl, Nat.le_of_ble_eq_true rfl⟩ (pre_VW hO hP hD (wd_0 y ad cap I J) rfl) rfl hl.1 rfl (Nat.le_of_ble_eq_true rfl) dL_law_353 ⟨(by show 87 + (cap 0 - 16) + 0 ≤ 600000; omega), (by show 24606 + 50 * (cap 0 - 16) + 0 ≤ 7302250; omega)⟩) hD hS hA (fun r353 u353 H locs hp353 hP hD hS => ?_)
  try dsimp only at hp353
  obtain ⟨I353, rfl, hE353, hv353, hn353⟩ := hp353
  have hM353 := RM_keep hRM (fun j hj => hE353 j (by simp; omega))
  have hP : va_P D vwCl (Wd y ad cap I353 J) H := hP
  have hD : va_D A (Wd y ad cap I353 J) := hD
  refine lv_aload_n hx hb dL_law_356 rfl (lv_at hl 2 rfl) ?_
  refine lv_aload_n hx hb dL_law_357 rfl (lv_at hl 0 rfl) ?_
  refine lv_iload_n hx hb dL_law_358 rfl (lv_at hl 3 rfl) ?_
  refine lv_iconst (v := 1) hx hb dL_law_359 (by decide) ?_
  refine lv_iadd hx hb dL_law_360 ?_
  refine lv_topi (fun v360 ev360 => ?_)
  obtain rfl : v360 = (nI (i + 1)) := by rw [ev360, show (1 : Int32) = nI 1 from rfl, nI_add]
  refine va_sld hx hb hX hbl hbA hS (vp_in_nI (by omega) (by omega)) dL_law_361 ?_
  rw [nI_clamp (n := i + 1) (by omega)]
  refine wk_i (Wf := Wt y) (run_v (As := [.int (xs (i + 1))]) (rest := [.int r353]) (b := (ad 55)) hx hb hml hown hO.2 (c_X9_base l D y ad cap I353 J H.size hM353 hW (xs (i + 1))) k_X9_base ml_L_41 ⟨rfl, rfl⟩ ⟨Nat.le_of_ble_eq_true rfl, Nat.le_of_ble_eq_true rfl⟩ (pre_VW hO hP hD (wd_55 y ad cap I353 J) rfl) rfl hl.1 rfl (Nat.le_of_ble_eq_true rfl) dL_law_362 ⟨(by show 87 + (cap 0 - 16) + 0 ≤ 600000; omega), (by show 24606 + 50 * (cap 0 - 16) + 0 ≤ 7302250; omega)⟩) hD hS hA (fun r362 u362 H locs hp362 hP hD hS => ?_)
  try dsimp only at hp362
  obtain ⟨I362, rfl, hv362, hn362⟩ := hp362
  have hP : va_P D vwCl (Wd y ad cap I362 J) H := hP
  have hD : va_D A (Wd y ad cap I362 J) := hD
  have hq : r353 = r362 ∧ ∃ (T' : Nat → Nat → Nat) (fl' : Nat), Inv I362 J (cap 0) T' fl' TL M R := by
    by_cases hV : ¬ (xs (i + 1)) < 0
    · obtain ⟨e1, e2, e3⟩ := hv353 hV
      obtain ⟨e4, e5, e6, e7, e8⟩ := hv362 hV
      have hwf := wf_a hW h3 hV
      exact ⟨e1.trans e4.symm, _, 1, Inv_tell hI (fun j hj => hE353 j (by simp; omega)) e2 e3 (fun j hj => e6 j (by simp; omega)) e7 e5 e8 hwf.1 hwf.2⟩
    · obtain ⟨e1, e2⟩ := hn353 hV
      obtain ⟨e3, e4⟩ := hn362 hV
      exact ⟨e1.trans e3.symm, T, fl, by rw [e4, e2]; exact hI⟩
  obtain ⟨hq1, T9, fl9, hI9⟩ := hq
  refine lv_icmp_eq (tgt := 695) hx hb dL_law_365 (by decide) (fun c365 => ?_) (fun c365 => ?_)
  · skip
    exact kk cap I362 J _ _ _ _ _ _ _ ls hI9 hP hD hS (by exact lv_sub hl [0, 1, 2, 3] rfl)
  · skip
    exact absurd hq1 c365
set_option maxHeartbeats 4000000 in
set_option maxRecDepth 100000 in
theorem law_6 {p : Program} {l : Launch} {e : Env} {s : State} {m : MethodId} {below : List Frame} {meth : Method} {c : Code} {D : va_G} {y : Nat → ClassId} {b L : Nat} {xs : Nat → Int32} (hL : L ≤ 2560) (C0 : lw_At p s m meth c b L xs) (hO : Ok D y s) {A : Nat → Prop} (hAe : A = fun q => s.heap.size ≤ q) {i : Nat} (hi : i + 5 ≤ L) (ad : Nat → Nat) (cap : Nat → Nat) (I : Nat → Nat → Int32) (J : Nat → Nat → Int64) (T : Nat → Nat → Nat) (fl : Nat) (TL : Nat → Nat → Nat) (M : List Th) (R : Nat) (hI : Inv I J (cap 0) T fl TL M R) {H : Heap} {locs : List Loc} (hP : va_P D vwCl (Wd y ad cap I J) H) (hD : va_D A (Wd y ad cap I J)) (hS : va_S A s.heap H locs) {ls : Array Slot} (hl : lv_has ls 4 [(0, .ref b), (1, .ref (ad 0)), (2, .ref (ad 55)), (3, .int (nI i))]) (kk : ∀ (cap' : Nat → Nat) (I' : Nat → Nat → Int32) (J' : Nat → Nat → Int64) (T' : Nat → Nat → Nat) (fl' : Nat) (TL' : Nat → Nat → Nat) (M' : List Th) (R' : Nat) (H' : Heap) (locs' : List Loc) (ls' : Array Slot), Inv I' J' (cap' 0) T' fl' TL' M' R' → va_P D vwCl (Wd y ad cap' I' J') H' → va_D A (Wd y ad cap' I' J') → va_S A s.heap H' locs' → lv_has ls' 4 [(0, .ref b), (1, .ref (ad 0)), (2, .ref (ad 55)), (3, .int (nI i))] → W p l e room_1 s m #[Value.ref b] below meth c H' locs' (87 + (cap' 0 - 16)) (24606 + 50 * (cap' 0 - 16)) (lw_Z below #[Value.ref b] s) (F0 m 695 ls' [])) : W p l e room_1 s m #[Value.ref b] below meth c H locs (87 + (cap 0 - 16)) (24606 + 50 * (cap 0 - 16)) (lw_Z below #[Value.ref b] s) (F0 m 370 ls []) := by
  obtain ⟨hx, hb, hr, hml, hown, -, hX, hbl, hlocks, -⟩ := C0
  have hown : s.vm.findClass RL = some m.cls := hown
  have hK := hO.1
  have hts : ∀ w ∈ lw_E, w.before #[Value.ref b] s = true := fun w h => hO.2 w h _
  have hA : ∀ q, s.heap.size ≤ q → A q := fun q h => by rw [hAe]; exact h
  have hbA : ¬ A b := by rw [hAe]; exact Nat.not_le.mpr hbl
  obtain ⟨hCI, h3, hRM, h19, hMX, hcp, h54⟩ := id hI
  obtain ⟨hT1, hW, hfl, -, hWL, -⟩ := id hCI
  obtain ⟨hc1, hc2⟩ := isCap_b hcp
  refine lv_aload_n hx hb dL_law_370 rfl (lv_at hl 1 rfl) ?_
  refine lv_aload_n hx hb dL_law_371 rfl (lv_at hl 0 rfl) ?_
  refine lv_iload_n hx hb dL_law_372 rfl (lv_at hl 3 rfl) ?_
  refine lv_iconst (v := 1) hx hb dL_law_373 (by decide) ?_
  refine lv_iadd hx hb dL_law_374 ?_
  refine lv_topi (fun v374 ev374 => ?_)
  obtain rfl : v374 = (nI (i + 1)) := by rw [ev374, show (1 : Int32) = nI 1 from rfl, nI_add]
  refine va_sld hx hb hX hbl hbA hS (vp_in_nI (by omega) (by omega)) dL_law_375 ?_
  rw [nI_clamp (n := i + 1) (by omega)]
  refine lv_aload_n hx hb dL_law_376 rfl (lv_at hl 0 rfl) ?_
  refine lv_iload_n hx hb dL_law_377 rfl (lv_at hl 3 rfl) ?_
  refine lv_iconst (v := 2) hx hb dL_law_378 (by decide) ?_
  refine lv_iadd hx hb dL_law_379 ?_
  refine lv_topi (fun v379 ev379 => ?_)
  obtain rfl : v379 = (nI (i + 2)) := by rw [ev379, show (2 : Int32) = nI 2 from rfl, nI_add]
  refine va_sld hx hb hX hbl hbA hS (vp_in_nI (by omega) (by omega)) dL_law_380 ?_
  rw [nI_clamp (n := i + 2) (by omega)]
  refine wk_i (Wf := Wt y) (run_v (As := [.int (xs (i + 1)), .int (xs (i + 2))]) (rest := []) (b := (ad 0)) hx hb hml hown hO.2 (c_X8_resize l D y ad cap I J H.size hT1 hW (xs (i + 1)) (xs (i + 2))) k_X8_resize ml_L_42 ⟨rfl, rfl⟩ ⟨Nat.le_of_ble_eq_true rfl, Nat.le_of_ble_eq_true rfl⟩ (pre_VW hO hP hD (wd_0 y ad cap I J) rfl) rfl hl.1 rfl (Nat.le_of_ble_eq_true rfl) dL_law_381 ⟨(by show 87 + (cap 0 - 16) + 0 ≤ 600000; omega), (by show 24606 + 50 * (cap 0 - 16) + 0 ≤ 7302250; omega)⟩) hD hS hA (fun r381 u381 H locs hp381 hP hD hS => ?_)
  try dsimp only at hp381
  obtain ⟨I381, rfl, hE381, hv381, hn381⟩ := hp381
  have hM381 := RM_keep hRM (fun j hj => hE381 j (by simp; omega))
  have hP : va_P D vwCl (Wd y ad cap I381 J) H := hP
  have hD : va_D A (Wd y ad cap I381 J) := hD
  refine lv_aload_n hx hb dL_law_384 rfl (lv_at hl 2 rfl) ?_
  refine lv_aload_n hx hb dL_law_385 rfl (lv_at hl 0 rfl) ?_
  refine lv_iload_n hx hb dL_law_386 rfl (lv_at hl 3 rfl) ?_
  refine lv_iconst (v := 1) hx hb dL_law_387 (by decide) ?_
  refine lv_iadd hx hb dL_law_388 ?_
  refine lv_topi (fun v388 ev388 => ?_)
  obtain rfl : v388 = (nI (i + 1)) := by rw [ev388, show (1 : Int32) = nI 1 from rfl, nI_add]
  refine va_sld hx hb hX hbl hbA hS (vp_in_nI (by omega) (by omega)) dL_law_389 ?_
  rw [nI_clamp (n := i + 1) (by omega)]
  refine lv_aload_n hx hb dL_law_390 rfl (lv_at hl 0 rfl) ?_
  refine lv_iload_n hx hb dL_law_391 rfl (lv_at hl 3 rfl) ?_
  refine lv_iconst (v := 2) hx hb dL_law_392 (by decide) ?_
  refine lv_iadd hx hb dL_law_393 ?_
  refine lv_topi (fun v393 ev393 => ?_)
  obtain rfl : v393 = (nI (i + 2)) := by rw [ev393, show (2 : Int32) = nI 2 from rfl, nI_add]
  refine va_sld hx hb hX hbl hbA hS (vp_in_nI (by omega) (by omega)) dL_law_394 ?_
  rw [nI_clamp (n := i + 2) (by omega)]
  refine wk_i (Wf := Wt y) (run_v (As := [.int (xs (i + 1)), .int (xs (i + 2))]) (rest := [.int r381]) (b := (ad 55)) hx hb hml hown hO.2 (c_X9_resize l D y ad cap I381 J H.size hM381 hW (xs (i + 1)) (xs (i + 2))) k_X9_resize ml_L_46 ⟨rfl, rfl⟩ ⟨Nat.le_of_ble_eq_true rfl, Nat.le_of_ble_eq_true rfl⟩ (pre_VW hO hP hD (wd_55 y ad cap I381 J) rfl) rfl hl.1 rfl (Nat.le_of_ble_eq_true rfl) dL_law_395 ⟨(by show 87 + (cap 0 - 16) + 0 ≤ 600000; omega), (by show 24606 + 50 * (cap 0 - 16) + 0 ≤ 7302250; omega)⟩) hD hS hA (fun r395 u395 H locs hp395 hP hD hS => ?_)
  try dsimp only at hp395
  obtain ⟨I395, rfl, hv395, hn395⟩ := hp395
  have hP : va_P D vwCl (Wd y ad cap I395 J) H := hP
  have hD : va_D A (Wd y ad cap I395 J) := hD
  have hq : r381 = r395 ∧ ∃ (T' : Nat → Nat → Nat) (fl' : Nat), Inv I395 J (cap 0) T' fl' TL M R := by
    by_cases hV : rszV T (xs (i + 1)) (xs (i + 2))
    · obtain ⟨e1, e2, e3⟩ := hv381 hV
      obtain ⟨e4, e5, e6, e7, e8⟩ := hv395 hV
      have hwf := wf_z hW h3 hV
      exact ⟨e1.trans e4.symm, _, 1, Inv_tell hI (fun j hj => hE381 j (by simp; omega)) e2 e3 (fun j hj => e6 j (by simp; omega)) e7 e5 e8 hwf.1 hwf.2⟩
    · obtain ⟨e1, e2⟩ := hn381 hV
      obtain ⟨e3, e4⟩ := hn395 hV
      exact ⟨e1.trans e3.symm, T, fl, by rw [e4, e2]; exact hI⟩
  obtain ⟨hq1, T9, fl9, hI9⟩ := hq
  refine lv_icmp_eq (tgt := 695) hx hb dL_law_398 (by decide) (fun c398 => ?_) (fun c398 => ?_)
  · skip
    exact kk cap I395 J _ _ _ _ _ _ _ ls hI9 hP hD hS (by exact lv_sub hl [0, 1, 2, 3] rfl)
  · skip
    exact absurd hq1 c398
set_option maxHeartbeats 4000000 in
set_option maxRecDepth 100000 in
theorem law_7 {p : Program} {l : Launch} {e : Env} {s : State} {m : MethodId} {below : List Frame} {meth : Method} {c : Code} {D : va_G} {y : Nat → ClassId} {b L : Nat} {xs : Nat → Int32} (hL : L ≤ 2560) (C0 : lw_At p s m meth c b L xs) (hO : Ok D y s) {A : Nat → Prop} (hAe : A = fun q => s.heap.size ≤ q) {i : Nat} (hi : i + 5 ≤ L) (ad : Nat → Nat) (cap : Nat → Nat) (I : Nat → Nat → Int32) (J : Nat → Nat → Int64) (T : Nat → Nat → Nat) (fl : Nat) (TL : Nat → Nat → Nat) (M : List Th) (R : Nat) (hI : Inv I J (cap 0) T fl TL M R) {H : Heap} {locs : List Loc} (hP : va_P D vwCl (Wd y ad cap I J) H) (hD : va_D A (Wd y ad cap I J)) (hS : va_S A s.heap H locs) {ls : Array Slot} (hl : lv_has ls 4 [(0, .ref b), (1, .ref (ad 0)), (2, .ref (ad 55)), (3, .int (nI i))]) (kk : ∀ (cap' : Nat → Nat) (I' : Nat → Nat → Int32) (J' : Nat → Nat → Int64) (T' : Nat → Nat → Nat) (fl' : Nat) (TL' : Nat → Nat → Nat) (M' : List Th) (R' : Nat) (H' : Heap) (locs' : List Loc) (ls' : Array Slot), Inv I' J' (cap' 0) T' fl' TL' M' R' → va_P D vwCl (Wd y ad cap' I' J') H' → va_D A (Wd y ad cap' I' J') → va_S A s.heap H' locs' → lv_has ls' 4 [(0, .ref b), (1, .ref (ad 0)), (2, .ref (ad 55)), (3, .int (nI i))] → W p l e room_1 s m #[Value.ref b] below meth c H' locs' (87 + (cap' 0 - 16)) (24606 + 50 * (cap' 0 - 16)) (lw_Z below #[Value.ref b] s) (F0 m 695 ls' [])) : W p l e room_1 s m #[Value.ref b] below meth c H locs (87 + (cap 0 - 16)) (24606 + 50 * (cap 0 - 16)) (lw_Z below #[Value.ref b] s) (F0 m 403 ls []) := by
  obtain ⟨hx, hb, hr, hml, hown, -, hX, hbl, hlocks, -⟩ := C0
  have hown : s.vm.findClass RL = some m.cls := hown
  have hK := hO.1
  have hts : ∀ w ∈ lw_E, w.before #[Value.ref b] s = true := fun w h => hO.2 w h _
  have hA : ∀ q, s.heap.size ≤ q → A q := fun q h => by rw [hAe]; exact h
  have hbA : ¬ A b := by rw [hAe]; exact Nat.not_le.mpr hbl
  obtain ⟨hCI, h3, hRM, h19, hMX, hcp, h54⟩ := id hI
  obtain ⟨hT1, hW, hfl, -, hWL, -⟩ := id hCI
  obtain ⟨hc1, hc2⟩ := isCap_b hcp
  refine lv_aload_n hx hb dL_law_403 rfl (lv_at hl 1 rfl) ?_
  refine lv_aload_n hx hb dL_law_404 rfl (lv_at hl 0 rfl) ?_
  refine lv_iload_n hx hb dL_law_405 rfl (lv_at hl 3 rfl) ?_
  refine lv_iconst (v := 1) hx hb dL_law_406 (by decide) ?_
  refine lv_iadd hx hb dL_law_407 ?_
  refine lv_topi (fun v407 ev407 => ?_)
  obtain rfl : v407 = (nI (i + 1)) := by rw [ev407, show (1 : Int32) = nI 1 from rfl, nI_add]
  refine va_sld hx hb hX hbl hbA hS (vp_in_nI (by omega) (by omega)) dL_law_408 ?_
  rw [nI_clamp (n := i + 1) (by omega)]
  refine lv_aload_n hx hb dL_law_409 rfl (lv_at hl 0 rfl) ?_
  refine lv_iload_n hx hb dL_law_410 rfl (lv_at hl 3 rfl) ?_
  refine lv_iconst (v := 2) hx hb dL_law_411 (by decide) ?_
  refine lv_iadd hx hb dL_law_412 ?_
  refine lv_topi (fun v412 ev412 => ?_)
  obtain rfl : v412 = (nI (i + 2)) := by rw [ev412, show (2 : Int32) = nI 2 from rfl, nI_add]
  refine va_sld hx hb hX hbl hbA hS (vp_in_nI (by omega) (by omega)) dL_law_413 ?_
  rw [nI_clamp (n := i + 2) (by omega)]
  refine wk_i (Wf := Wt y) (run_v (As := [.int (xs (i + 1)), .int (xs (i + 2))]) (rest := []) (b := (ad 0)) hx hb hml hown hO.2 (c_X8_retarget l D y ad cap I J H.size hT1 hW (xs (i + 1)) (xs (i + 2))) k_X8_retarget ml_L_47 ⟨rfl, rfl⟩ ⟨Nat.le_of_ble_eq_true rfl, Nat.le_of_ble_eq_true rfl⟩ (pre_VW hO hP hD (wd_0 y ad cap I J) rfl) rfl hl.1 rfl (Nat.le_of_ble_eq_true rfl) dL_law_414 ⟨(by show 87 + (cap 0 - 16) + 0 ≤ 600000; omega), (by show 24606 + 50 * (cap 0 - 16) + 0 ≤ 7302250; omega)⟩) hD hS hA (fun r414 u414 H locs hp414 hP hD hS => ?_)
  try dsimp only at hp414
  obtain ⟨I414, rfl, hE414, hv414, hn414⟩ := hp414
  have hM414 := RM_keep hRM (fun j hj => hE414 j (by simp; omega))
  have hP : va_P D vwCl (Wd y ad cap I414 J) H := hP
  have hD : va_D A (Wd y ad cap I414 J) := hD
  refine lv_aload_n hx hb dL_law_417 rfl (lv_at hl 2 rfl) ?_
  refine lv_aload_n hx hb dL_law_418 rfl (lv_at hl 0 rfl) ?_
  refine lv_iload_n hx hb dL_law_419 rfl (lv_at hl 3 rfl) ?_
  refine lv_iconst (v := 1) hx hb dL_law_420 (by decide) ?_
  refine lv_iadd hx hb dL_law_421 ?_
  refine lv_topi (fun v421 ev421 => ?_)
  obtain rfl : v421 = (nI (i + 1)) := by rw [ev421, show (1 : Int32) = nI 1 from rfl, nI_add]
  refine va_sld hx hb hX hbl hbA hS (vp_in_nI (by omega) (by omega)) dL_law_422 ?_
  rw [nI_clamp (n := i + 1) (by omega)]
  refine lv_aload_n hx hb dL_law_423 rfl (lv_at hl 0 rfl) ?_
  refine lv_iload_n hx hb dL_law_424 rfl (lv_at hl 3 rfl) ?_
  refine lv_iconst (v := 2) hx hb dL_law_425 (by decide) ?_
  refine lv_iadd hx hb dL_law_426 ?_
  refine lv_topi (fun v426 ev426 => ?_)
  obtain rfl : v426 = (nI (i + 2)) := by rw [ev426, show (2 : Int32) = nI 2 from rfl, nI_add]
  refine va_sld hx hb hX hbl hbA hS (vp_in_nI (by omega) (by omega)) dL_law_427 ?_
  rw [nI_clamp (n := i + 2) (by omega)]
  refine wk_i (Wf := Wt y) (run_v (As := [.int (xs (i + 1)), .int (xs (i + 2))]) (rest := [.int r414]) (b := (ad 55)) hx hb hml hown hO.2 (c_X9_retarget l D y ad cap I414 J H.size hM414 hW (xs (i + 1)) (xs (i + 2))) k_X9_retarget ml_L_50 ⟨rfl, rfl⟩ ⟨Nat.le_of_ble_eq_true rfl, Nat.le_of_ble_eq_true rfl⟩ (pre_VW hO hP hD (wd_55 y ad cap I414 J) rfl) rfl hl.1 rfl (Nat.le_of_ble_eq_true rfl) dL_law_428 ⟨(by show 87 + (cap 0 - 16) + 0 ≤ 600000; omega), (by show 24606 + 50 * (cap 0 - 16) + 0 ≤ 7302250; omega)⟩) hD hS hA (fun r428 u428 H locs hp428 hP hD hS => ?_)
  try dsimp only at hp428
  obtain ⟨I428, rfl, hv428, hn428⟩ := hp428
  have hP : va_P D vwCl (Wd y ad cap I428 J) H := hP
  have hD : va_D A (Wd y ad cap I428 J) := hD
  have hq : r414 = r428 ∧ ∃ (T' : Nat → Nat → Nat) (fl' : Nat), Inv I428 J (cap 0) T' fl' TL M R := by
    by_cases hV : rtgV T (xs (i + 1)) (xs (i + 2))
    · obtain ⟨e1, e2, e3⟩ := hv414 hV
      obtain ⟨e4, e5, e6, e7, e8⟩ := hv428 hV
      have hwf := wf_g hW h3 hV
      exact ⟨e1.trans e4.symm, _, 1, Inv_tell hI (fun j hj => hE414 j (by simp; omega)) e2 e3 (fun j hj => e6 j (by simp; omega)) e7 e5 e8 hwf.1 hwf.2⟩
    · obtain ⟨e1, e2⟩ := hn414 hV
      obtain ⟨e3, e4⟩ := hn428 hV
      exact ⟨e1.trans e3.symm, T, fl, by rw [e4, e2]; exact hI⟩
  obtain ⟨hq1, T9, fl9, hI9⟩ := hq
  refine lv_icmp_eq (tgt := 695) hx hb dL_law_431 (by decide) (fun c431 => ?_) (fun c431 => ?_)
  · skip
    exact kk cap I428 J _ _ _ _ _ _ _ ls hI9 hP hD hS (by exact lv_sub hl [0, 1, 2, 3] rfl)
  · skip
    exact absurd hq1 c431
set_option maxHeartbeats 4000000 in
set_option maxRecDepth 100000 in
theorem law_8 {p : Program} {l : Launch} {e : Env} {s : State} {m : MethodId} {below : List Frame} {meth : Method} {c : Code} {D : va_G} {y : Nat → ClassId} {b L : Nat} {xs : Nat → Int32} (hL : L ≤ 2560) (C0 : lw_At p s m meth c b L xs) (hO : Ok D y s) {A : Nat → Prop} (hAe : A = fun q => s.heap.size ≤ q) {i : Nat} (hi : i + 5 ≤ L) (ad : Nat → Nat) (cap : Nat → Nat) (I : Nat → Nat → Int32) (J : Nat → Nat → Int64) (T : Nat → Nat → Nat) (fl : Nat) (TL : Nat → Nat → Nat) (M : List Th) (R : Nat) (hI : Inv I J (cap 0) T fl TL M R) {H : Heap} {locs : List Loc} (hP : va_P D vwCl (Wd y ad cap I J) H) (hD : va_D A (Wd y ad cap I J)) (hS : va_S A s.heap H locs) {ls : Array Slot} (hl : lv_has ls 4 [(0, .ref b), (1, .ref (ad 0)), (2, .ref (ad 55)), (3, .int (nI i))]) (kk : ∀ (cap' : Nat → Nat) (I' : Nat → Nat → Int32) (J' : Nat → Nat → Int64) (T' : Nat → Nat → Nat) (fl' : Nat) (TL' : Nat → Nat → Nat) (M' : List Th) (R' : Nat) (H' : Heap) (locs' : List Loc) (ls' : Array Slot), Inv I' J' (cap' 0) T' fl' TL' M' R' → va_P D vwCl (Wd y ad cap' I' J') H' → va_D A (Wd y ad cap' I' J') → va_S A s.heap H' locs' → lv_has ls' 4 [(0, .ref b), (1, .ref (ad 0)), (2, .ref (ad 55)), (3, .int (nI i))] → W p l e room_1 s m #[Value.ref b] below meth c H' locs' (87 + (cap' 0 - 16)) (24606 + 50 * (cap' 0 - 16)) (lw_Z below #[Value.ref b] s) (F0 m 695 ls' [])) : W p l e room_1 s m #[Value.ref b] below meth c H locs (87 + (cap 0 - 16)) (24606 + 50 * (cap 0 - 16)) (lw_Z below #[Value.ref b] s) (F0 m 436 ls []) := by
  obtain ⟨hx, hb, hr, hml, hown, -, hX, hbl, hlocks, -⟩ := C0
  have hown : s.vm.findClass RL = some m.cls := hown
  have hK := hO.1
  have hts : ∀ w ∈ lw_E, w.before #[Value.ref b] s = true := fun w h => hO.2 w h _
  have hA : ∀ q, s.heap.size ≤ q → A q := fun q h => by rw [hAe]; exact h
  have hbA : ¬ A b := by rw [hAe]; exact Nat.not_le.mpr hbl
  obtain ⟨hCI, h3, hRM, h19, hMX, hcp, h54⟩ := id hI
  obtain ⟨hT1, hW, hfl, -, hWL, -⟩ := id hCI
  obtain ⟨hc1, hc2⟩ := isCap_b hcp
  have hlenM : (layM T).length ≤ 2400 := TW_len hW (lays_TW hW _ (by have := stop_le hW; omega))
  have hok := capAt_ok hcp hlenM
  have hb8 := isCap_b hok.1
  refine lv_aload_n hx hb dL_law_436 rfl (lv_at hl 1 rfl) ?_
  refine wk_i (Wf := Wt y) (run_v (As := []) (rest := []) (b := (ad 0)) hx hb hml hown hO.2 (c_X8_lay l D y ad cap I J H.size hT1 hW hcp) k_X8_lay ml_L_51 ⟨rfl, rfl⟩ ⟨Nat.le_of_ble_eq_true rfl, Nat.le_of_ble_eq_true rfl⟩ (pre_VW hO hP hD (wd_0 y ad cap I J) rfl) rfl hl.1 rfl (Nat.le_of_ble_eq_true rfl) dL_law_437 ⟨(by show 87 + (cap 0 - 16) + (capAt (cap 0) (layM T).length - cap 0) ≤ 600000; omega), (by show 24606 + 50 * (cap 0 - 16) + 50 * (capAt (cap 0) (layM T).length - cap 0) ≤ 7302250; omega)⟩) hD hS hA (fun r437 u437 H locs hp437 hP hD hS => ?_)
  try dsimp only at hp437
  obtain ⟨cap437, I437, J437, rfl, hc437, e437, hC437, hE437, hEJ437⟩ := hp437
  have hM437 := RM_keep hRM (fun j hj => hE437 j (by simp; omega))
  have hcp9 : isCap (cap437 0) := by rw [hc437]; exact hok.1
  have hb9 := isCap_b hcp9
  refine W.widen (k := 87 + (cap437 0 - 16)) (n := 24606 + 50 * (cap437 0 - 16)) (by omega) (by omega) ?_
  have hP : va_P D vwCl (Wd y ad cap437 I437 J437) H := hP
  have hD : va_D A (Wd y ad cap437 I437 J437) := hD
  refine lv_aload_n hx hb dL_law_440 rfl (lv_at hl 2 rfl) ?_
  refine wk_i (Wf := Wt y) (run_v (As := []) (rest := [.int r437]) (b := (ad 55)) hx hb hml hown hO.2 (c_X9_lay l D y ad cap437 I437 J437 H.size hM437 hW) k_X9_lay ml_L_55 ⟨rfl, rfl⟩ ⟨Nat.le_of_ble_eq_true rfl, Nat.le_of_ble_eq_true rfl⟩ (pre_VW hO hP hD (wd_55 y ad cap437 I437 J437) rfl) rfl hl.1 rfl (Nat.le_of_ble_eq_true rfl) dL_law_441 ⟨(by show 87 + (cap437 0 - 16) + 0 ≤ 600000; omega), (by show 24606 + 50 * (cap437 0 - 16) + 0 ≤ 7302250; omega)⟩) hD hS hA (fun r441 u441 H locs hp441 hP hD hS => ?_)
  try dsimp only at hp441
  obtain ⟨I441, J441, rfl, e441, hML9, hM441, h441, hE441, hEJ441⟩ := hp441
  have hP : va_P D vwCl (Wd y ad cap437 I441 J441) H := hP
  have hD : va_D A (Wd y ad cap437 I441 J441) := hD
  have hq1 : r437 = r441 := e437.trans e441.symm
  have hI9 := Inv_lay hI hC437 (hE437 54 (by decide)) hcp9 (fun j hj => hE441 j (by simp; omega)) (fun j hj => hEJ441 j (by simp; omega)) hML9 hM441 h441
  refine lv_icmp_eq (tgt := 695) hx hb dL_law_444 (by decide) (fun c444 => ?_) (fun c444 => ?_)
  · skip
    exact kk cap437 I441 J441 _ _ _ _ _ _ _ ls hI9 hP hD hS (by exact lv_sub hl [0, 1, 2, 3] rfl)
  · skip
    exact absurd hq1 c444
set_option maxHeartbeats 4000000 in
set_option maxRecDepth 100000 in
theorem law_9 {p : Program} {l : Launch} {e : Env} {s : State} {m : MethodId} {below : List Frame} {meth : Method} {c : Code} {D : va_G} {y : Nat → ClassId} {b L : Nat} {xs : Nat → Int32} (hL : L ≤ 2560) (C0 : lw_At p s m meth c b L xs) (hO : Ok D y s) {A : Nat → Prop} (hAe : A = fun q => s.heap.size ≤ q) {i : Nat} (hi : i + 5 ≤ L) (ad : Nat → Nat) (cap : Nat → Nat) (I : Nat → Nat → Int32) (J : Nat → Nat → Int64) (T : Nat → Nat → Nat) (fl : Nat) (TL : Nat → Nat → Nat) (M : List Th) (R : Nat) (hI : Inv I J (cap 0) T fl TL M R) {H : Heap} {locs : List Loc} (hP : va_P D vwCl (Wd y ad cap I J) H) (hD : va_D A (Wd y ad cap I J)) (hS : va_S A s.heap H locs) {ls : Array Slot} (hl : lv_has ls 4 [(0, .ref b), (1, .ref (ad 0)), (2, .ref (ad 55)), (3, .int (nI i))]) (kk : ∀ (cap' : Nat → Nat) (I' : Nat → Nat → Int32) (J' : Nat → Nat → Int64) (T' : Nat → Nat → Nat) (fl' : Nat) (TL' : Nat → Nat → Nat) (M' : List Th) (R' : Nat) (H' : Heap) (locs' : List Loc) (ls' : Array Slot), Inv I' J' (cap' 0) T' fl' TL' M' R' → va_P D vwCl (Wd y ad cap' I' J') H' → va_D A (Wd y ad cap' I' J') → va_S A s.heap H' locs' → lv_has ls' 4 [(0, .ref b), (1, .ref (ad 0)), (2, .ref (ad 55)), (3, .int (nI i))] → W p l e room_1 s m #[Value.ref b] below meth c H' locs' (87 + (cap' 0 - 16)) (24606 + 50 * (cap' 0 - 16)) (lw_Z below #[Value.ref b] s) (F0 m 695 ls' [])) : W p l e room_1 s m #[Value.ref b] below meth c H locs (87 + (cap 0 - 16)) (24606 + 50 * (cap 0 - 16)) (lw_Z below #[Value.ref b] s) (F0 m 449 ls []) := by
  obtain ⟨hx, hb, hr, hml, hown, -, hX, hbl, hlocks, -⟩ := C0
  have hown : s.vm.findClass RL = some m.cls := hown
  have hK := hO.1
  have hts : ∀ w ∈ lw_E, w.before #[Value.ref b] s = true := fun w h => hO.2 w h _
  have hA : ∀ q, s.heap.size ≤ q → A q := fun q h => by rw [hAe]; exact h
  have hbA : ¬ A b := by rw [hAe]; exact Nat.not_le.mpr hbl
  obtain ⟨hCI, h3, hRM, h19, hMX, hcp, h54⟩ := id hI
  obtain ⟨hT1, hW, hfl, -, hWL, -⟩ := id hCI
  obtain ⟨hc1, hc2⟩ := isCap_b hcp
  refine lv_aload_n hx hb dL_law_449 rfl (lv_at hl 1 rfl) ?_
  refine lv_aload_n hx hb dL_law_450 rfl (lv_at hl 0 rfl) ?_
  refine lv_iload_n hx hb dL_law_451 rfl (lv_at hl 3 rfl) ?_
  refine lv_iconst (v := 1) hx hb dL_law_452 (by decide) ?_
  refine lv_iadd hx hb dL_law_453 ?_
  refine lv_topi (fun v453 ev453 => ?_)
  obtain rfl : v453 = (nI (i + 1)) := by rw [ev453, show (1 : Int32) = nI 1 from rfl, nI_add]
  refine va_sld hx hb hX hbl hbA hS (vp_in_nI (by omega) (by omega)) dL_law_454 ?_
  rw [nI_clamp (n := i + 1) (by omega)]
  refine rk_i (run_v (As := [.int (xs (i + 1))]) (rest := []) (b := (ad 0)) hx hb hml hown hO.2 (c_X8_count l D y ad cap I J hCI (xs (i + 1))) k_X8_count ml_L_56 ⟨rfl, rfl⟩ ⟨Nat.le_of_ble_eq_true rfl, Nat.le_of_ble_eq_true rfl⟩ (pre_VR hO hP (wd_0 y ad cap I J) rfl) rfl hl.1 rfl (Nat.le_of_ble_eq_true rfl) dL_law_455 ⟨(by show 87 + (cap 0 - 16) + 0 ≤ 600000; omega), (by show 24606 + 50 * (cap 0 - 16) + 0 ≤ 7302250; omega)⟩) (fun r455 er455 => ?_)
  try dsimp only at er455
  refine lv_aload_n hx hb dL_law_458 rfl (lv_at hl 2 rfl) ?_
  refine lv_aload_n hx hb dL_law_459 rfl (lv_at hl 0 rfl) ?_
  refine lv_iload_n hx hb dL_law_460 rfl (lv_at hl 3 rfl) ?_
  refine lv_iconst (v := 1) hx hb dL_law_461 (by decide) ?_
  refine lv_iadd hx hb dL_law_462 ?_
  refine lv_topi (fun v462 ev462 => ?_)
  obtain rfl : v462 = (nI (i + 1)) := by rw [ev462, show (1 : Int32) = nI 1 from rfl, nI_add]
  refine va_sld hx hb hX hbl hbA hS (vp_in_nI (by omega) (by omega)) dL_law_463 ?_
  rw [nI_clamp (n := i + 1) (by omega)]
  refine rk_i (run_v (As := [.int (xs (i + 1))]) (rest := [.int r455]) (b := (ad 55)) hx hb hml hown hO.2 (c_X9_count l D y ad cap I J hRM ⟨h19, hfl.2⟩ hMX hWL (xs (i + 1))) k_X9_count ml_L_60 ⟨rfl, rfl⟩ ⟨Nat.le_of_ble_eq_true rfl, Nat.le_of_ble_eq_true rfl⟩ (pre_VR hO hP (wd_55 y ad cap I J) rfl) rfl hl.1 rfl (Nat.le_of_ble_eq_true rfl) dL_law_464 ⟨(by show 87 + (cap 0 - 16) + 0 ≤ 600000; omega), (by show 24606 + 50 * (cap 0 - 16) + 0 ≤ 7302250; omega)⟩) (fun r464 er464 => ?_)
  try dsimp only at er464
  have hq1 : r455 = r464 := er455.trans er464.symm
  refine lv_icmp_eq (tgt := 695) hx hb dL_law_467 (by decide) (fun c467 => ?_) (fun c467 => ?_)
  · skip
    exact kk cap I J _ _ _ _ _ _ _ ls hI hP hD hS (by exact lv_sub hl [0, 1, 2, 3] rfl)
  · skip
    exact absurd hq1 c467
set_option maxHeartbeats 4000000 in
set_option maxRecDepth 100000 in
theorem law_10 {p : Program} {l : Launch} {e : Env} {s : State} {m : MethodId} {below : List Frame} {meth : Method} {c : Code} {D : va_G} {y : Nat → ClassId} {b L : Nat} {xs : Nat → Int32} (hL : L ≤ 2560) (C0 : lw_At p s m meth c b L xs) (hO : Ok D y s) {A : Nat → Prop} (hAe : A = fun q => s.heap.size ≤ q) {i : Nat} (hi : i + 5 ≤ L) (ad : Nat → Nat) (cap : Nat → Nat) (I : Nat → Nat → Int32) (J : Nat → Nat → Int64) (T : Nat → Nat → Nat) (fl : Nat) (TL : Nat → Nat → Nat) (M : List Th) (R : Nat) (hI : Inv I J (cap 0) T fl TL M R) {H : Heap} {locs : List Loc} (hP : va_P D vwCl (Wd y ad cap I J) H) (hD : va_D A (Wd y ad cap I J)) (hS : va_S A s.heap H locs) {ls : Array Slot} (hl : lv_has ls 4 [(0, .ref b), (1, .ref (ad 0)), (2, .ref (ad 55)), (3, .int (nI i))]) (kk : ∀ (cap' : Nat → Nat) (I' : Nat → Nat → Int32) (J' : Nat → Nat → Int64) (T' : Nat → Nat → Nat) (fl' : Nat) (TL' : Nat → Nat → Nat) (M' : List Th) (R' : Nat) (H' : Heap) (locs' : List Loc) (ls' : Array Slot), Inv I' J' (cap' 0) T' fl' TL' M' R' → va_P D vwCl (Wd y ad cap' I' J') H' → va_D A (Wd y ad cap' I' J') → va_S A s.heap H' locs' → lv_has ls' 4 [(0, .ref b), (1, .ref (ad 0)), (2, .ref (ad 55)), (3, .int (nI i))] → W p l e room_1 s m #[Value.ref b] below meth c H' locs' (87 + (cap' 0 - 16)) (24606 + 50 * (cap' 0 - 16)) (lw_Z below #[Value.ref b] s) (F0 m 695 ls' [])) : W p l e room_1 s m #[Value.ref b] below meth c H locs (87 + (cap 0 - 16)) (24606 + 50 * (cap 0 - 16)) (lw_Z below #[Value.ref b] s) (F0 m 472 ls []) := by
  obtain ⟨hx, hb, hr, hml, hown, -, hX, hbl, hlocks, -⟩ := C0
  have hown : s.vm.findClass RL = some m.cls := hown
  have hK := hO.1
  have hts : ∀ w ∈ lw_E, w.before #[Value.ref b] s = true := fun w h => hO.2 w h _
  have hA : ∀ q, s.heap.size ≤ q → A q := fun q h => by rw [hAe]; exact h
  have hbA : ¬ A b := by rw [hAe]; exact Nat.not_le.mpr hbl
  obtain ⟨hCI, h3, hRM, h19, hMX, hcp, h54⟩ := id hI
  obtain ⟨hT1, hW, hfl, -, hWL, -⟩ := id hCI
  obtain ⟨hc1, hc2⟩ := isCap_b hcp
  refine lv_aload_n hx hb dL_law_472 rfl (lv_at hl 1 rfl) ?_
  refine lv_aload_n hx hb dL_law_473 rfl (lv_at hl 0 rfl) ?_
  refine lv_iload_n hx hb dL_law_474 rfl (lv_at hl 3 rfl) ?_
  refine lv_iconst (v := 1) hx hb dL_law_475 (by decide) ?_
  refine lv_iadd hx hb dL_law_476 ?_
  refine lv_topi (fun v476 ev476 => ?_)
  obtain rfl : v476 = (nI (i + 1)) := by rw [ev476, show (1 : Int32) = nI 1 from rfl, nI_add]
  refine va_sld hx hb hX hbl hbA hS (vp_in_nI (by omega) (by omega)) dL_law_477 ?_
  rw [nI_clamp (n := i + 1) (by omega)]
  refine lv_aload_n hx hb dL_law_478 rfl (lv_at hl 0 rfl) ?_
  refine lv_iload_n hx hb dL_law_479 rfl (lv_at hl 3 rfl) ?_
  refine lv_iconst (v := 2) hx hb dL_law_480 (by decide) ?_
  refine lv_iadd hx hb dL_law_481 ?_
  refine lv_topi (fun v481 ev481 => ?_)
  obtain rfl : v481 = (nI (i + 2)) := by rw [ev481, show (2 : Int32) = nI 2 from rfl, nI_add]
  refine va_sld hx hb hX hbl hbA hS (vp_in_nI (by omega) (by omega)) dL_law_482 ?_
  rw [nI_clamp (n := i + 2) (by omega)]
  refine rk_l (run_v (As := [.int (xs (i + 1)), .int (xs (i + 2))]) (rest := []) (b := (ad 0)) hx hb hml hown hO.2 (c_X8_address l D y ad cap I J hCI (xs (i + 1)) (xs (i + 2))) k_X8_address ml_L_61 ⟨rfl, rfl⟩ ⟨Nat.le_of_ble_eq_true rfl, Nat.le_of_ble_eq_true rfl⟩ (pre_VR hO hP (wd_0 y ad cap I J) rfl) rfl hl.1 rfl (Nat.le_of_ble_eq_true rfl) dL_law_483 ⟨(by show 87 + (cap 0 - 16) + 0 ≤ 600000; omega), (by show 24606 + 50 * (cap 0 - 16) + 0 ≤ 7302250; omega)⟩) (fun r483 er483 => ?_)
  try dsimp only at er483
  refine lv_aload_n hx hb dL_law_486 rfl (lv_at hl 2 rfl) ?_
  refine lv_aload_n hx hb dL_law_487 rfl (lv_at hl 0 rfl) ?_
  refine lv_iload_n hx hb dL_law_488 rfl (lv_at hl 3 rfl) ?_
  refine lv_iconst (v := 1) hx hb dL_law_489 (by decide) ?_
  refine lv_iadd hx hb dL_law_490 ?_
  refine lv_topi (fun v490 ev490 => ?_)
  obtain rfl : v490 = (nI (i + 1)) := by rw [ev490, show (1 : Int32) = nI 1 from rfl, nI_add]
  refine va_sld hx hb hX hbl hbA hS (vp_in_nI (by omega) (by omega)) dL_law_491 ?_
  rw [nI_clamp (n := i + 1) (by omega)]
  refine lv_aload_n hx hb dL_law_492 rfl (lv_at hl 0 rfl) ?_
  refine lv_iload_n hx hb dL_law_493 rfl (lv_at hl 3 rfl) ?_
  refine lv_iconst (v := 2) hx hb dL_law_494 (by decide) ?_
  refine lv_iadd hx hb dL_law_495 ?_
  refine lv_topi (fun v495 ev495 => ?_)
  obtain rfl : v495 = (nI (i + 2)) := by rw [ev495, show (2 : Int32) = nI 2 from rfl, nI_add]
  refine va_sld hx hb hX hbl hbA hS (vp_in_nI (by omega) (by omega)) dL_law_496 ?_
  rw [nI_clamp (n := i + 2) (by omega)]
  refine rk_l (run_v (As := [.int (xs (i + 1)), .int (xs (i + 2))]) (rest := [.long r483]) (b := (ad 55)) hx hb hml hown hO.2 (c_X9_address l D y ad cap I J hMX hWL (xs (i + 1)) (xs (i + 2))) k_X9_address ml_L_65 ⟨rfl, rfl⟩ ⟨Nat.le_of_ble_eq_true rfl, Nat.le_of_ble_eq_true rfl⟩ (pre_VR hO hP (wd_55 y ad cap I J) rfl) rfl hl.1 rfl (Nat.le_of_ble_eq_true rfl) dL_law_497 ⟨(by show 87 + (cap 0 - 16) + 0 ≤ 600000; omega), (by show 24606 + 50 * (cap 0 - 16) + 0 ≤ 7302250; omega)⟩) (fun r497 er497 => ?_)
  try dsimp only at er497
  have hq1 : r483 = r497 := er483.trans er497.symm
  refine W.lcmp hx hb dL_law_500 ?_
  refine lv_if_eq (tgt := 695) hx hb dL_law_501 (by decide) (fun c501 => ?_) (fun c501 => ?_)
  · skip
    have c501 := lc_eq.mp c501
    exact kk cap I J _ _ _ _ _ _ _ ls hI hP hD hS (by exact lv_sub hl [0, 1, 2, 3] rfl)
  · skip
    have c501 := mt lc_eq.mpr c501
    exact absurd hq1 c501
set_option maxHeartbeats 4000000 in
set_option maxRecDepth 100000 in
theorem law_11 {p : Program} {l : Launch} {e : Env} {s : State} {m : MethodId} {below : List Frame} {meth : Method} {c : Code} {D : va_G} {y : Nat → ClassId} {b L : Nat} {xs : Nat → Int32} (hL : L ≤ 2560) (C0 : lw_At p s m meth c b L xs) (hO : Ok D y s) {A : Nat → Prop} (hAe : A = fun q => s.heap.size ≤ q) {i : Nat} (hi : i + 5 ≤ L) (ad : Nat → Nat) (cap : Nat → Nat) (I : Nat → Nat → Int32) (J : Nat → Nat → Int64) (T : Nat → Nat → Nat) (fl : Nat) (TL : Nat → Nat → Nat) (M : List Th) (R : Nat) (hI : Inv I J (cap 0) T fl TL M R) {H : Heap} {locs : List Loc} (hP : va_P D vwCl (Wd y ad cap I J) H) (hD : va_D A (Wd y ad cap I J)) (hS : va_S A s.heap H locs) {ls : Array Slot} (hl : lv_has ls 4 [(0, .ref b), (1, .ref (ad 0)), (2, .ref (ad 55)), (3, .int (nI i))]) (kk : ∀ (cap' : Nat → Nat) (I' : Nat → Nat → Int32) (J' : Nat → Nat → Int64) (T' : Nat → Nat → Nat) (fl' : Nat) (TL' : Nat → Nat → Nat) (M' : List Th) (R' : Nat) (H' : Heap) (locs' : List Loc) (ls' : Array Slot), Inv I' J' (cap' 0) T' fl' TL' M' R' → va_P D vwCl (Wd y ad cap' I' J') H' → va_D A (Wd y ad cap' I' J') → va_S A s.heap H' locs' → lv_has ls' 4 [(0, .ref b), (1, .ref (ad 0)), (2, .ref (ad 55)), (3, .int (nI i))] → W p l e room_1 s m #[Value.ref b] below meth c H' locs' (87 + (cap' 0 - 16)) (24606 + 50 * (cap' 0 - 16)) (lw_Z below #[Value.ref b] s) (F0 m 695 ls' [])) : W p l e room_1 s m #[Value.ref b] below meth c H locs (87 + (cap 0 - 16)) (24606 + 50 * (cap 0 - 16)) (lw_Z below #[Value.ref b] s) (F0 m 506 ls []) := by
  obtain ⟨hx, hb, hr, hml, hown, -, hX, hbl, hlocks, -⟩ := C0
  have hown : s.vm.findClass RL = some m.cls := hown
  have hK := hO.1
  have hts : ∀ w ∈ lw_E, w.before #[Value.ref b] s = true := fun w h => hO.2 w h _
  have hA : ∀ q, s.heap.size ≤ q → A q := fun q h => by rw [hAe]; exact h
  have hbA : ¬ A b := by rw [hAe]; exact Nat.not_le.mpr hbl
  obtain ⟨hCI, h3, hRM, h19, hMX, hcp, h54⟩ := id hI
  obtain ⟨hT1, hW, hfl, -, hWL, -⟩ := id hCI
  obtain ⟨hc1, hc2⟩ := isCap_b hcp
  refine lv_aload_n hx hb dL_law_506 rfl (lv_at hl 1 rfl) ?_
  refine lv_aload_n hx hb dL_law_507 rfl (lv_at hl 0 rfl) ?_
  refine lv_iload_n hx hb dL_law_508 rfl (lv_at hl 3 rfl) ?_
  refine lv_iconst (v := 1) hx hb dL_law_509 (by decide) ?_
  refine lv_iadd hx hb dL_law_510 ?_
  refine lv_topi (fun v510 ev510 => ?_)
  obtain rfl : v510 = (nI (i + 1)) := by rw [ev510, show (1 : Int32) = nI 1 from rfl, nI_add]
  refine va_sld hx hb hX hbl hbA hS (vp_in_nI (by omega) (by omega)) dL_law_511 ?_
  rw [nI_clamp (n := i + 1) (by omega)]
  refine lv_aload_n hx hb dL_law_512 rfl (lv_at hl 0 rfl) ?_
  refine lv_iload_n hx hb dL_law_513 rfl (lv_at hl 3 rfl) ?_
  refine lv_iconst (v := 2) hx hb dL_law_514 (by decide) ?_
  refine lv_iadd hx hb dL_law_515 ?_
  refine lv_topi (fun v515 ev515 => ?_)
  obtain rfl : v515 = (nI (i + 2)) := by rw [ev515, show (2 : Int32) = nI 2 from rfl, nI_add]
  refine va_sld hx hb hX hbl hbA hS (vp_in_nI (by omega) (by omega)) dL_law_516 ?_
  rw [nI_clamp (n := i + 2) (by omega)]
  refine rk_i (run_v (As := [.int (xs (i + 1)), .int (xs (i + 2))]) (rest := []) (b := (ad 0)) hx hb hml hown hO.2 (c_X8_route l D y ad cap I J hCI (xs (i + 1)) (xs (i + 2))) k_X8_route ml_L_66 ⟨rfl, rfl⟩ ⟨Nat.le_of_ble_eq_true rfl, Nat.le_of_ble_eq_true rfl⟩ (pre_VR hO hP (wd_0 y ad cap I J) rfl) rfl hl.1 rfl (Nat.le_of_ble_eq_true rfl) dL_law_517 ⟨(by show 87 + (cap 0 - 16) + 0 ≤ 600000; omega), (by show 24606 + 50 * (cap 0 - 16) + 0 ≤ 7302250; omega)⟩) (fun r517 er517 => ?_)
  try dsimp only at er517
  refine lv_aload_n hx hb dL_law_520 rfl (lv_at hl 2 rfl) ?_
  refine lv_aload_n hx hb dL_law_521 rfl (lv_at hl 0 rfl) ?_
  refine lv_iload_n hx hb dL_law_522 rfl (lv_at hl 3 rfl) ?_
  refine lv_iconst (v := 1) hx hb dL_law_523 (by decide) ?_
  refine lv_iadd hx hb dL_law_524 ?_
  refine lv_topi (fun v524 ev524 => ?_)
  obtain rfl : v524 = (nI (i + 1)) := by rw [ev524, show (1 : Int32) = nI 1 from rfl, nI_add]
  refine va_sld hx hb hX hbl hbA hS (vp_in_nI (by omega) (by omega)) dL_law_525 ?_
  rw [nI_clamp (n := i + 1) (by omega)]
  refine lv_aload_n hx hb dL_law_526 rfl (lv_at hl 0 rfl) ?_
  refine lv_iload_n hx hb dL_law_527 rfl (lv_at hl 3 rfl) ?_
  refine lv_iconst (v := 2) hx hb dL_law_528 (by decide) ?_
  refine lv_iadd hx hb dL_law_529 ?_
  refine lv_topi (fun v529 ev529 => ?_)
  obtain rfl : v529 = (nI (i + 2)) := by rw [ev529, show (2 : Int32) = nI 2 from rfl, nI_add]
  refine va_sld hx hb hX hbl hbA hS (vp_in_nI (by omega) (by omega)) dL_law_530 ?_
  rw [nI_clamp (n := i + 2) (by omega)]
  refine rk_i (run_v (As := [.int (xs (i + 1)), .int (xs (i + 2))]) (rest := [.int r517]) (b := (ad 55)) hx hb hml hown hO.2 (c_X9_route l D y ad cap I J hMX hWL (xs (i + 1)) (xs (i + 2))) k_X9_route ml_L_69 ⟨rfl, rfl⟩ ⟨Nat.le_of_ble_eq_true rfl, Nat.le_of_ble_eq_true rfl⟩ (pre_VR hO hP (wd_55 y ad cap I J) rfl) rfl hl.1 rfl (Nat.le_of_ble_eq_true rfl) dL_law_531 ⟨(by show 87 + (cap 0 - 16) + 0 ≤ 600000; omega), (by show 24606 + 50 * (cap 0 - 16) + 0 ≤ 7302250; omega)⟩) (fun r531 er531 => ?_)
  try dsimp only at er531
  have hq1 : r517 = r531 := er517.trans er531.symm
  refine lv_icmp_eq (tgt := 695) hx hb dL_law_534 (by decide) (fun c534 => ?_) (fun c534 => ?_)
  · skip
    exact kk cap I J _ _ _ _ _ _ _ ls hI hP hD hS (by exact lv_sub hl [0, 1, 2, 3] rfl)
  · skip
    exact absurd hq1 c534
set_option maxHeartbeats 4000000 in
set_option maxRecDepth 100000 in
theorem law_12 {p : Program} {l : Launch} {e : Env} {s : State} {m : MethodId} {below : List Frame} {meth : Method} {c : Code} {D : va_G} {y : Nat → ClassId} {b L : Nat} {xs : Nat → Int32} (hL : L ≤ 2560) (C0 : lw_At p s m meth c b L xs) (hO : Ok D y s) {A : Nat → Prop} (hAe : A = fun q => s.heap.size ≤ q) {i : Nat} (hi : i + 5 ≤ L) (ad : Nat → Nat) (cap : Nat → Nat) (I : Nat → Nat → Int32) (J : Nat → Nat → Int64) (T : Nat → Nat → Nat) (fl : Nat) (TL : Nat → Nat → Nat) (M : List Th) (R : Nat) (hI : Inv I J (cap 0) T fl TL M R) {H : Heap} {locs : List Loc} (hP : va_P D vwCl (Wd y ad cap I J) H) (hD : va_D A (Wd y ad cap I J)) (hS : va_S A s.heap H locs) {ls : Array Slot} (hl : lv_has ls 4 [(0, .ref b), (1, .ref (ad 0)), (2, .ref (ad 55)), (3, .int (nI i))]) (kk : ∀ (cap' : Nat → Nat) (I' : Nat → Nat → Int32) (J' : Nat → Nat → Int64) (T' : Nat → Nat → Nat) (fl' : Nat) (TL' : Nat → Nat → Nat) (M' : List Th) (R' : Nat) (H' : Heap) (locs' : List Loc) (ls' : Array Slot), Inv I' J' (cap' 0) T' fl' TL' M' R' → va_P D vwCl (Wd y ad cap' I' J') H' → va_D A (Wd y ad cap' I' J') → va_S A s.heap H' locs' → lv_has ls' 4 [(0, .ref b), (1, .ref (ad 0)), (2, .ref (ad 55)), (3, .int (nI i))] → W p l e room_1 s m #[Value.ref b] below meth c H' locs' (87 + (cap' 0 - 16)) (24606 + 50 * (cap' 0 - 16)) (lw_Z below #[Value.ref b] s) (F0 m 695 ls' [])) : W p l e room_1 s m #[Value.ref b] below meth c H locs (87 + (cap 0 - 16)) (24606 + 50 * (cap 0 - 16)) (lw_Z below #[Value.ref b] s) (F0 m 539 ls []) := by
  obtain ⟨hx, hb, hr, hml, hown, -, hX, hbl, hlocks, -⟩ := C0
  have hown : s.vm.findClass RL = some m.cls := hown
  have hK := hO.1
  have hts : ∀ w ∈ lw_E, w.before #[Value.ref b] s = true := fun w h => hO.2 w h _
  have hA : ∀ q, s.heap.size ≤ q → A q := fun q h => by rw [hAe]; exact h
  have hbA : ¬ A b := by rw [hAe]; exact Nat.not_le.mpr hbl
  obtain ⟨hCI, h3, hRM, h19, hMX, hcp, h54⟩ := id hI
  obtain ⟨hT1, hW, hfl, -, hWL, -⟩ := id hCI
  obtain ⟨hc1, hc2⟩ := isCap_b hcp
  refine lv_aload_n hx hb dL_law_539 rfl (lv_at hl 1 rfl) ?_
  refine lv_aload_n hx hb dL_law_540 rfl (lv_at hl 0 rfl) ?_
  refine lv_iload_n hx hb dL_law_541 rfl (lv_at hl 3 rfl) ?_
  refine lv_iconst (v := 1) hx hb dL_law_542 (by decide) ?_
  refine lv_iadd hx hb dL_law_543 ?_
  refine lv_topi (fun v543 ev543 => ?_)
  obtain rfl : v543 = (nI (i + 1)) := by rw [ev543, show (1 : Int32) = nI 1 from rfl, nI_add]
  refine va_sld hx hb hX hbl hbA hS (vp_in_nI (by omega) (by omega)) dL_law_544 ?_
  rw [nI_clamp (n := i + 1) (by omega)]
  refine lv_aload_n hx hb dL_law_545 rfl (lv_at hl 0 rfl) ?_
  refine lv_iload_n hx hb dL_law_546 rfl (lv_at hl 3 rfl) ?_
  refine lv_iconst (v := 2) hx hb dL_law_547 (by decide) ?_
  refine lv_iadd hx hb dL_law_548 ?_
  refine lv_topi (fun v548 ev548 => ?_)
  obtain rfl : v548 = (nI (i + 2)) := by rw [ev548, show (2 : Int32) = nI 2 from rfl, nI_add]
  refine va_sld hx hb hX hbl hbA hS (vp_in_nI (by omega) (by omega)) dL_law_549 ?_
  rw [nI_clamp (n := i + 2) (by omega)]
  refine rk_i (run_v (As := [.int (xs (i + 1)), .int (xs (i + 2))]) (rest := []) (b := (ad 0)) hx hb hml hown hO.2 (c_X8_thunk l D y ad cap I J hCI (xs (i + 1)) (xs (i + 2))) k_X8_thunk ml_L_70 ⟨rfl, rfl⟩ ⟨Nat.le_of_ble_eq_true rfl, Nat.le_of_ble_eq_true rfl⟩ (pre_VR hO hP (wd_0 y ad cap I J) rfl) rfl hl.1 rfl (Nat.le_of_ble_eq_true rfl) dL_law_550 ⟨(by show 87 + (cap 0 - 16) + 0 ≤ 600000; omega), (by show 24606 + 50 * (cap 0 - 16) + 0 ≤ 7302250; omega)⟩) (fun r550 er550 => ?_)
  try dsimp only at er550
  refine lv_aload_n hx hb dL_law_553 rfl (lv_at hl 2 rfl) ?_
  refine lv_aload_n hx hb dL_law_554 rfl (lv_at hl 0 rfl) ?_
  refine lv_iload_n hx hb dL_law_555 rfl (lv_at hl 3 rfl) ?_
  refine lv_iconst (v := 1) hx hb dL_law_556 (by decide) ?_
  refine lv_iadd hx hb dL_law_557 ?_
  refine lv_topi (fun v557 ev557 => ?_)
  obtain rfl : v557 = (nI (i + 1)) := by rw [ev557, show (1 : Int32) = nI 1 from rfl, nI_add]
  refine va_sld hx hb hX hbl hbA hS (vp_in_nI (by omega) (by omega)) dL_law_558 ?_
  rw [nI_clamp (n := i + 1) (by omega)]
  refine lv_aload_n hx hb dL_law_559 rfl (lv_at hl 0 rfl) ?_
  refine lv_iload_n hx hb dL_law_560 rfl (lv_at hl 3 rfl) ?_
  refine lv_iconst (v := 2) hx hb dL_law_561 (by decide) ?_
  refine lv_iadd hx hb dL_law_562 ?_
  refine lv_topi (fun v562 ev562 => ?_)
  obtain rfl : v562 = (nI (i + 2)) := by rw [ev562, show (2 : Int32) = nI 2 from rfl, nI_add]
  refine va_sld hx hb hX hbl hbA hS (vp_in_nI (by omega) (by omega)) dL_law_563 ?_
  rw [nI_clamp (n := i + 2) (by omega)]
  refine rk_i (run_v (As := [.int (xs (i + 1)), .int (xs (i + 2))]) (rest := [.int r550]) (b := (ad 55)) hx hb hml hown hO.2 (c_X9_thunk l D y ad cap I J hMX hWL (xs (i + 1)) (xs (i + 2))) k_X9_thunk ml_L_73 ⟨rfl, rfl⟩ ⟨Nat.le_of_ble_eq_true rfl, Nat.le_of_ble_eq_true rfl⟩ (pre_VR hO hP (wd_55 y ad cap I J) rfl) rfl hl.1 rfl (Nat.le_of_ble_eq_true rfl) dL_law_564 ⟨(by show 87 + (cap 0 - 16) + 0 ≤ 600000; omega), (by show 24606 + 50 * (cap 0 - 16) + 0 ≤ 7302250; omega)⟩) (fun r564 er564 => ?_)
  try dsimp only at er564
  have hq1 : r550 = r564 := er550.trans er564.symm
  refine lv_icmp_eq (tgt := 695) hx hb dL_law_567 (by decide) (fun c567 => ?_) (fun c567 => ?_)
  · skip
    exact kk cap I J _ _ _ _ _ _ _ ls hI hP hD hS (by exact lv_sub hl [0, 1, 2, 3] rfl)
  · skip
    exact absurd hq1 c567
set_option maxHeartbeats 4000000 in
set_option maxRecDepth 100000 in
theorem law_13 {p : Program} {l : Launch} {e : Env} {s : State} {m : MethodId} {below : List Frame} {meth : Method} {c : Code} {D : va_G} {y : Nat → ClassId} {b L : Nat} {xs : Nat → Int32} (hL : L ≤ 2560) (C0 : lw_At p s m meth c b L xs) (hO : Ok D y s) {A : Nat → Prop} (hAe : A = fun q => s.heap.size ≤ q) {i : Nat} (hi : i + 5 ≤ L) (ad : Nat → Nat) (cap : Nat → Nat) (I : Nat → Nat → Int32) (J : Nat → Nat → Int64) (T : Nat → Nat → Nat) (fl : Nat) (TL : Nat → Nat → Nat) (M : List Th) (R : Nat) (hI : Inv I J (cap 0) T fl TL M R) {H : Heap} {locs : List Loc} (hP : va_P D vwCl (Wd y ad cap I J) H) (hD : va_D A (Wd y ad cap I J)) (hS : va_S A s.heap H locs) {ls : Array Slot} (hl : lv_has ls 4 [(0, .ref b), (1, .ref (ad 0)), (2, .ref (ad 55)), (3, .int (nI i))]) (kk : ∀ (cap' : Nat → Nat) (I' : Nat → Nat → Int32) (J' : Nat → Nat → Int64) (T' : Nat → Nat → Nat) (fl' : Nat) (TL' : Nat → Nat → Nat) (M' : List Th) (R' : Nat) (H' : Heap) (locs' : List Loc) (ls' : Array Slot), Inv I' J' (cap' 0) T' fl' TL' M' R' → va_P D vwCl (Wd y ad cap' I' J') H' → va_D A (Wd y ad cap' I' J') → va_S A s.heap H' locs' → lv_has ls' 4 [(0, .ref b), (1, .ref (ad 0)), (2, .ref (ad 55)), (3, .int (nI i))] → W p l e room_1 s m #[Value.ref b] below meth c H' locs' (87 + (cap' 0 - 16)) (24606 + 50 * (cap' 0 - 16)) (lw_Z below #[Value.ref b] s) (F0 m 695 ls' [])) : W p l e room_1 s m #[Value.ref b] below meth c H locs (87 + (cap 0 - 16)) (24606 + 50 * (cap 0 - 16)) (lw_Z below #[Value.ref b] s) (F0 m 572 ls []) := by
  obtain ⟨hx, hb, hr, hml, hown, -, hX, hbl, hlocks, -⟩ := C0
  have hown : s.vm.findClass RL = some m.cls := hown
  have hK := hO.1
  have hts : ∀ w ∈ lw_E, w.before #[Value.ref b] s = true := fun w h => hO.2 w h _
  have hA : ∀ q, s.heap.size ≤ q → A q := fun q h => by rw [hAe]; exact h
  have hbA : ¬ A b := by rw [hAe]; exact Nat.not_le.mpr hbl
  obtain ⟨hCI, h3, hRM, h19, hMX, hcp, h54⟩ := id hI
  obtain ⟨hT1, hW, hfl, -, hWL, -⟩ := id hCI
  obtain ⟨hc1, hc2⟩ := isCap_b hcp
  refine lv_aload_n hx hb dL_law_572 rfl (lv_at hl 1 rfl) ?_
  refine lv_aload_n hx hb dL_law_573 rfl (lv_at hl 0 rfl) ?_
  refine lv_iload_n hx hb dL_law_574 rfl (lv_at hl 3 rfl) ?_
  refine lv_iconst (v := 1) hx hb dL_law_575 (by decide) ?_
  refine lv_iadd hx hb dL_law_576 ?_
  refine lv_topi (fun v576 ev576 => ?_)
  obtain rfl : v576 = (nI (i + 1)) := by rw [ev576, show (1 : Int32) = nI 1 from rfl, nI_add]
  refine va_sld hx hb hX hbl hbA hS (vp_in_nI (by omega) (by omega)) dL_law_577 ?_
  rw [nI_clamp (n := i + 1) (by omega)]
  refine lv_aload_n hx hb dL_law_578 rfl (lv_at hl 0 rfl) ?_
  refine lv_iload_n hx hb dL_law_579 rfl (lv_at hl 3 rfl) ?_
  refine lv_iconst (v := 2) hx hb dL_law_580 (by decide) ?_
  refine lv_iadd hx hb dL_law_581 ?_
  refine lv_topi (fun v581 ev581 => ?_)
  obtain rfl : v581 = (nI (i + 2)) := by rw [ev581, show (2 : Int32) = nI 2 from rfl, nI_add]
  refine va_sld hx hb hX hbl hbA hS (vp_in_nI (by omega) (by omega)) dL_law_582 ?_
  rw [nI_clamp (n := i + 2) (by omega)]
  refine rk_i (run_v (As := [.int (xs (i + 1)), .int (xs (i + 2))]) (rest := []) (b := (ad 0)) hx hb hml hown hO.2 (c_X8_encoded l D y ad cap I J hCI (xs (i + 1)) (xs (i + 2))) k_X8_encoded ml_L_74 ⟨rfl, rfl⟩ ⟨Nat.le_of_ble_eq_true rfl, Nat.le_of_ble_eq_true rfl⟩ (pre_VR hO hP (wd_0 y ad cap I J) rfl) rfl hl.1 rfl (Nat.le_of_ble_eq_true rfl) dL_law_583 ⟨(by show 87 + (cap 0 - 16) + 0 ≤ 600000; omega), (by show 24606 + 50 * (cap 0 - 16) + 0 ≤ 7302250; omega)⟩) (fun r583 er583 => ?_)
  try dsimp only at er583
  refine lv_aload_n hx hb dL_law_586 rfl (lv_at hl 2 rfl) ?_
  refine lv_aload_n hx hb dL_law_587 rfl (lv_at hl 0 rfl) ?_
  refine lv_iload_n hx hb dL_law_588 rfl (lv_at hl 3 rfl) ?_
  refine lv_iconst (v := 1) hx hb dL_law_589 (by decide) ?_
  refine lv_iadd hx hb dL_law_590 ?_
  refine lv_topi (fun v590 ev590 => ?_)
  obtain rfl : v590 = (nI (i + 1)) := by rw [ev590, show (1 : Int32) = nI 1 from rfl, nI_add]
  refine va_sld hx hb hX hbl hbA hS (vp_in_nI (by omega) (by omega)) dL_law_591 ?_
  rw [nI_clamp (n := i + 1) (by omega)]
  refine lv_aload_n hx hb dL_law_592 rfl (lv_at hl 0 rfl) ?_
  refine lv_iload_n hx hb dL_law_593 rfl (lv_at hl 3 rfl) ?_
  refine lv_iconst (v := 2) hx hb dL_law_594 (by decide) ?_
  refine lv_iadd hx hb dL_law_595 ?_
  refine lv_topi (fun v595 ev595 => ?_)
  obtain rfl : v595 = (nI (i + 2)) := by rw [ev595, show (2 : Int32) = nI 2 from rfl, nI_add]
  refine va_sld hx hb hX hbl hbA hS (vp_in_nI (by omega) (by omega)) dL_law_596 ?_
  rw [nI_clamp (n := i + 2) (by omega)]
  refine rk_i (run_v (As := [.int (xs (i + 1)), .int (xs (i + 2))]) (rest := [.int r583]) (b := (ad 55)) hx hb hml hown hO.2 (c_X9_encoded l D y ad cap I J hMX hWL (xs (i + 1)) (xs (i + 2))) k_X9_encoded ml_L_77 ⟨rfl, rfl⟩ ⟨Nat.le_of_ble_eq_true rfl, Nat.le_of_ble_eq_true rfl⟩ (pre_VR hO hP (wd_55 y ad cap I J) rfl) rfl hl.1 rfl (Nat.le_of_ble_eq_true rfl) dL_law_597 ⟨(by show 87 + (cap 0 - 16) + 0 ≤ 600000; omega), (by show 24606 + 50 * (cap 0 - 16) + 0 ≤ 7302250; omega)⟩) (fun r597 er597 => ?_)
  try dsimp only at er597
  have hq1 : r583 = r597 := er583.trans er597.symm
  refine lv_icmp_eq (tgt := 695) hx hb dL_law_600 (by decide) (fun c600 => ?_) (fun c600 => ?_)
  · skip
    exact kk cap I J _ _ _ _ _ _ _ ls hI hP hD hS (by exact lv_sub hl [0, 1, 2, 3] rfl)
  · skip
    exact absurd hq1 c600
set_option maxHeartbeats 4000000 in
set_option maxRecDepth 100000 in
theorem law_14 {p : Program} {l : Launch} {e : Env} {s : State} {m : MethodId} {below : List Frame} {meth : Method} {c : Code} {D : va_G} {y : Nat → ClassId} {b L : Nat} {xs : Nat → Int32} (hL : L ≤ 2560) (C0 : lw_At p s m meth c b L xs) (hO : Ok D y s) {A : Nat → Prop} (hAe : A = fun q => s.heap.size ≤ q) {i : Nat} (hi : i + 5 ≤ L) (ad : Nat → Nat) (cap : Nat → Nat) (I : Nat → Nat → Int32) (J : Nat → Nat → Int64) (T : Nat → Nat → Nat) (fl : Nat) (TL : Nat → Nat → Nat) (M : List Th) (R : Nat) (hI : Inv I J (cap 0) T fl TL M R) {H : Heap} {locs : List Loc} (hP : va_P D vwCl (Wd y ad cap I J) H) (hD : va_D A (Wd y ad cap I J)) (hS : va_S A s.heap H locs) {ls : Array Slot} (hl : lv_has ls 4 [(0, .ref b), (1, .ref (ad 0)), (2, .ref (ad 55)), (3, .int (nI i))]) (kk : ∀ (cap' : Nat → Nat) (I' : Nat → Nat → Int32) (J' : Nat → Nat → Int64) (T' : Nat → Nat → Nat) (fl' : Nat) (TL' : Nat → Nat → Nat) (M' : List Th) (R' : Nat) (H' : Heap) (locs' : List Loc) (ls' : Array Slot), Inv I' J' (cap' 0) T' fl' TL' M' R' → va_P D vwCl (Wd y ad cap' I' J') H' → va_D A (Wd y ad cap' I' J') → va_S A s.heap H' locs' → lv_has ls' 4 [(0, .ref b), (1, .ref (ad 0)), (2, .ref (ad 55)), (3, .int (nI i))] → W p l e room_1 s m #[Value.ref b] below meth c H' locs' (87 + (cap' 0 - 16)) (24606 + 50 * (cap' 0 - 16)) (lw_Z below #[Value.ref b] s) (F0 m 695 ls' [])) : W p l e room_1 s m #[Value.ref b] below meth c H locs (87 + (cap 0 - 16)) (24606 + 50 * (cap 0 - 16)) (lw_Z below #[Value.ref b] s) (F0 m 605 ls []) := by
  obtain ⟨hx, hb, hr, hml, hown, -, hX, hbl, hlocks, -⟩ := C0
  have hown : s.vm.findClass RL = some m.cls := hown
  have hK := hO.1
  have hts : ∀ w ∈ lw_E, w.before #[Value.ref b] s = true := fun w h => hO.2 w h _
  have hA : ∀ q, s.heap.size ≤ q → A q := fun q h => by rw [hAe]; exact h
  have hbA : ¬ A b := by rw [hAe]; exact Nat.not_le.mpr hbl
  obtain ⟨hCI, h3, hRM, h19, hMX, hcp, h54⟩ := id hI
  obtain ⟨hT1, hW, hfl, -, hWL, -⟩ := id hCI
  obtain ⟨hc1, hc2⟩ := isCap_b hcp
  refine lv_aload_n hx hb dL_law_605 rfl (lv_at hl 1 rfl) ?_
  refine lv_aload_n hx hb dL_law_606 rfl (lv_at hl 0 rfl) ?_
  refine lv_iload_n hx hb dL_law_607 rfl (lv_at hl 3 rfl) ?_
  refine lv_iconst (v := 1) hx hb dL_law_608 (by decide) ?_
  refine lv_iadd hx hb dL_law_609 ?_
  refine lv_topi (fun v609 ev609 => ?_)
  obtain rfl : v609 = (nI (i + 1)) := by rw [ev609, show (1 : Int32) = nI 1 from rfl, nI_add]
  refine va_sld hx hb hX hbl hbA hS (vp_in_nI (by omega) (by omega)) dL_law_610 ?_
  rw [nI_clamp (n := i + 1) (by omega)]
  refine lv_i2l hx hb dL_law_611 rfl ?_
  refine lv_topl (fun v611 ev611 => ?_)
  refine lv_bipush (v := 32) hx hb dL_law_612 (by decide) ?_
  refine lv_lshl hx hb dL_law_614 rfl ?_
  refine lv_topl (fun v614 ev614 => ?_)
  refine lv_aload_n hx hb dL_law_615 rfl (lv_at hl 0 rfl) ?_
  refine lv_iload_n hx hb dL_law_616 rfl (lv_at hl 3 rfl) ?_
  refine lv_iconst (v := 2) hx hb dL_law_617 (by decide) ?_
  refine lv_iadd hx hb dL_law_618 ?_
  refine lv_topi (fun v618 ev618 => ?_)
  obtain rfl : v618 = (nI (i + 2)) := by rw [ev618, show (2 : Int32) = nI 2 from rfl, nI_add]
  refine va_sld hx hb hX hbl hbA hS (vp_in_nI (by omega) (by omega)) dL_law_619 ?_
  rw [nI_clamp (n := i + 2) (by omega)]
  refine lv_i2l hx hb dL_law_620 rfl ?_
  refine lv_topl (fun v620 ev620 => ?_)
  refine lv_ldc2 (v := 4294967295) hx hb hown (hts _ kc_L_78) dL_law_621 ?_
  refine lv_land hx hb dL_law_624 ?_
  refine lv_topl (fun v624 ev624 => ?_)
  refine lv_lor hx hb dL_law_625 ?_
  refine lv_topl (fun v625 ev625 => ?_)
  refine rk_i (run_v (As := [.long v625]) (rest := []) (b := (ad 0)) hx hb hml hown hO.2 (c_X8_at l D y ad cap I J hCI v625) k_X8_at ml_L_80 ⟨rfl, rfl⟩ ⟨Nat.le_of_ble_eq_true rfl, Nat.le_of_ble_eq_true rfl⟩ (pre_VR hO hP (wd_0 y ad cap I J) rfl) rfl hl.1 rfl (Nat.le_of_ble_eq_true rfl) dL_law_626 ⟨(by show 87 + (cap 0 - 16) + 0 ≤ 600000; omega), (by show 24606 + 50 * (cap 0 - 16) + 0 ≤ 7302250; omega)⟩) (fun r626 er626 => ?_)
  try dsimp only at er626
  refine lv_aload_n hx hb dL_law_629 rfl (lv_at hl 2 rfl) ?_
  refine lv_aload_n hx hb dL_law_630 rfl (lv_at hl 0 rfl) ?_
  refine lv_iload_n hx hb dL_law_631 rfl (lv_at hl 3 rfl) ?_
  refine lv_iconst (v := 1) hx hb dL_law_632 (by decide) ?_
  refine lv_iadd hx hb dL_law_633 ?_
  refine lv_topi (fun v633 ev633 => ?_)
  obtain rfl : v633 = (nI (i + 1)) := by rw [ev633, show (1 : Int32) = nI 1 from rfl, nI_add]
  refine va_sld hx hb hX hbl hbA hS (vp_in_nI (by omega) (by omega)) dL_law_634 ?_
  rw [nI_clamp (n := i + 1) (by omega)]
  refine lv_i2l hx hb dL_law_635 rfl ?_
  refine lv_topl (fun v635 ev635 => ?_)
  refine lv_bipush (v := 32) hx hb dL_law_636 (by decide) ?_
  refine lv_lshl hx hb dL_law_638 rfl ?_
  refine lv_topl (fun v638 ev638 => ?_)
  refine lv_aload_n hx hb dL_law_639 rfl (lv_at hl 0 rfl) ?_
  refine lv_iload_n hx hb dL_law_640 rfl (lv_at hl 3 rfl) ?_
  refine lv_iconst (v := 2) hx hb dL_law_641 (by decide) ?_
  refine lv_iadd hx hb dL_law_642 ?_
  refine lv_topi (fun v642 ev642 => ?_)
  obtain rfl : v642 = (nI (i + 2)) := by rw [ev642, show (2 : Int32) = nI 2 from rfl, nI_add]
  refine va_sld hx hb hX hbl hbA hS (vp_in_nI (by omega) (by omega)) dL_law_643 ?_
  rw [nI_clamp (n := i + 2) (by omega)]
  refine lv_i2l hx hb dL_law_644 rfl ?_
  refine lv_topl (fun v644 ev644 => ?_)
  refine lv_ldc2 (v := 4294967295) hx hb hown (hts _ kc_L_78) dL_law_645 ?_
  refine lv_land hx hb dL_law_648 ?_
  refine lv_topl (fun v648 ev648 => ?_)
  refine lv_lor hx hb dL_law_649 ?_
  refine lv_topl (fun v649 ev649 => ?_)
  refine rk_i (run_v (As := [.long v649]) (rest := [.int r626]) (b := (ad 55)) hx hb hml hown hO.2 (c_X9_at l D y ad cap I J hMX hWL v649) k_X9_at ml_L_84 ⟨rfl, rfl⟩ ⟨Nat.le_of_ble_eq_true rfl, Nat.le_of_ble_eq_true rfl⟩ (pre_VR hO hP (wd_55 y ad cap I J) rfl) rfl hl.1 rfl (Nat.le_of_ble_eq_true rfl) dL_law_650 ⟨(by show 87 + (cap 0 - 16) + 0 ≤ 600000; omega), (by show 24606 + 50 * (cap 0 - 16) + 0 ≤ 7302250; omega)⟩) (fun r650 er650 => ?_)
  try dsimp only at er650
  have hq1 : r626 = r650 := by subst ev611 ev614 ev620 ev624 ev625 ev635 ev638 ev644 ev648 ev649; exact er626.trans er650.symm
  refine lv_icmp_eq (tgt := 695) hx hb dL_law_653 (by decide) (fun c653 => ?_) (fun c653 => ?_)
  · skip
    exact kk cap I J _ _ _ _ _ _ _ ls hI hP hD hS (by exact lv_sub hl [0, 1, 2, 3] rfl)
  · skip
    exact absurd hq1 c653
set_option maxHeartbeats 4000000 in
set_option maxRecDepth 100000 in
theorem law_15 {p : Program} {l : Launch} {e : Env} {s : State} {m : MethodId} {below : List Frame} {meth : Method} {c : Code} {D : va_G} {y : Nat → ClassId} {b L : Nat} {xs : Nat → Int32} (hL : L ≤ 2560) (C0 : lw_At p s m meth c b L xs) (hO : Ok D y s) {A : Nat → Prop} (hAe : A = fun q => s.heap.size ≤ q) {i : Nat} (hi : i + 5 ≤ L) (ad : Nat → Nat) (cap : Nat → Nat) (I : Nat → Nat → Int32) (J : Nat → Nat → Int64) (T : Nat → Nat → Nat) (fl : Nat) (TL : Nat → Nat → Nat) (M : List Th) (R : Nat) (hI : Inv I J (cap 0) T fl TL M R) {H : Heap} {locs : List Loc} (hP : va_P D vwCl (Wd y ad cap I J) H) (hD : va_D A (Wd y ad cap I J)) (hS : va_S A s.heap H locs) {ls : Array Slot} (hl : lv_has ls 4 [(0, .ref b), (1, .ref (ad 0)), (2, .ref (ad 55)), (3, .int (nI i))]) (kk : ∀ (cap' : Nat → Nat) (I' : Nat → Nat → Int32) (J' : Nat → Nat → Int64) (T' : Nat → Nat → Nat) (fl' : Nat) (TL' : Nat → Nat → Nat) (M' : List Th) (R' : Nat) (H' : Heap) (locs' : List Loc) (ls' : Array Slot), Inv I' J' (cap' 0) T' fl' TL' M' R' → va_P D vwCl (Wd y ad cap' I' J') H' → va_D A (Wd y ad cap' I' J') → va_S A s.heap H' locs' → lv_has ls' 4 [(0, .ref b), (1, .ref (ad 0)), (2, .ref (ad 55)), (3, .int (nI i))] → W p l e room_1 s m #[Value.ref b] below meth c H' locs' (87 + (cap' 0 - 16)) (24606 + 50 * (cap' 0 - 16)) (lw_Z below #[Value.ref b] s) (F0 m 695 ls' [])) : W p l e room_1 s m #[Value.ref b] below meth c H locs (87 + (cap 0 - 16)) (24606 + 50 * (cap 0 - 16)) (lw_Z below #[Value.ref b] s) (F0 m 658 ls []) := by
  obtain ⟨hx, hb, hr, hml, hown, -, hX, hbl, hlocks, -⟩ := C0
  have hown : s.vm.findClass RL = some m.cls := hown
  have hK := hO.1
  have hts : ∀ w ∈ lw_E, w.before #[Value.ref b] s = true := fun w h => hO.2 w h _
  have hA : ∀ q, s.heap.size ≤ q → A q := fun q h => by rw [hAe]; exact h
  have hbA : ¬ A b := by rw [hAe]; exact Nat.not_le.mpr hbl
  obtain ⟨hCI, h3, hRM, h19, hMX, hcp, h54⟩ := id hI
  obtain ⟨hT1, hW, hfl, -, hWL, -⟩ := id hCI
  obtain ⟨hc1, hc2⟩ := isCap_b hcp
  refine lv_aload_n hx hb dL_law_658 rfl (lv_at hl 1 rfl) ?_
  refine lv_aload_n hx hb dL_law_659 rfl (lv_at hl 0 rfl) ?_
  refine lv_iload_n hx hb dL_law_660 rfl (lv_at hl 3 rfl) ?_
  refine lv_iconst (v := 1) hx hb dL_law_661 (by decide) ?_
  refine lv_iadd hx hb dL_law_662 ?_
  refine lv_topi (fun v662 ev662 => ?_)
  obtain rfl : v662 = (nI (i + 1)) := by rw [ev662, show (1 : Int32) = nI 1 from rfl, nI_add]
  refine va_sld hx hb hX hbl hbA hS (vp_in_nI (by omega) (by omega)) dL_law_663 ?_
  rw [nI_clamp (n := i + 1) (by omega)]
  refine rk_l (run_v (As := [.int (xs (i + 1))]) (rest := []) (b := (ad 0)) hx hb hml hown hO.2 (c_X8_walk l D y ad cap I J hCI (xs (i + 1))) k_X8_walk ml_L_85 ⟨rfl, rfl⟩ ⟨Nat.le_of_ble_eq_true rfl, Nat.le_of_ble_eq_true rfl⟩ (pre_VR hO hP (wd_0 y ad cap I J) rfl) rfl hl.1 rfl (Nat.le_of_ble_eq_true rfl) dL_law_664 ⟨(by show 87 + (cap 0 - 16) + 0 ≤ 600000; omega), (by show 24606 + 50 * (cap 0 - 16) + 0 ≤ 7302250; omega)⟩) (fun r664 er664 => ?_)
  try dsimp only at er664
  refine lv_aload_n hx hb dL_law_667 rfl (lv_at hl 2 rfl) ?_
  refine lv_aload_n hx hb dL_law_668 rfl (lv_at hl 0 rfl) ?_
  refine lv_iload_n hx hb dL_law_669 rfl (lv_at hl 3 rfl) ?_
  refine lv_iconst (v := 1) hx hb dL_law_670 (by decide) ?_
  refine lv_iadd hx hb dL_law_671 ?_
  refine lv_topi (fun v671 ev671 => ?_)
  obtain rfl : v671 = (nI (i + 1)) := by rw [ev671, show (1 : Int32) = nI 1 from rfl, nI_add]
  refine va_sld hx hb hX hbl hbA hS (vp_in_nI (by omega) (by omega)) dL_law_672 ?_
  rw [nI_clamp (n := i + 1) (by omega)]
  refine rk_l (run_v (As := [.int (xs (i + 1))]) (rest := [.long r664]) (b := (ad 55)) hx hb hml hown hO.2 (c_X9_walk l D y ad cap I J hMX hWL (xs (i + 1))) k_X9_walk ml_L_89 ⟨rfl, rfl⟩ ⟨Nat.le_of_ble_eq_true rfl, Nat.le_of_ble_eq_true rfl⟩ (pre_VR hO hP (wd_55 y ad cap I J) rfl) rfl hl.1 rfl (Nat.le_of_ble_eq_true rfl) dL_law_673 ⟨(by show 87 + (cap 0 - 16) + 0 ≤ 600000; omega), (by show 24606 + 50 * (cap 0 - 16) + 0 ≤ 7302250; omega)⟩) (fun r673 er673 => ?_)
  try dsimp only at er673
  have hq1 : r664 = r673 := er664.trans er673.symm
  refine W.lcmp hx hb dL_law_676 ?_
  refine lv_if_eq (tgt := 695) hx hb dL_law_677 (by decide) (fun c677 => ?_) (fun c677 => ?_)
  · skip
    have c677 := lc_eq.mp c677
    exact kk cap I J _ _ _ _ _ _ _ ls hI hP hD hS (by exact lv_sub hl [0, 1, 2, 3] rfl)
  · skip
    have c677 := mt lc_eq.mpr c677
    exact absurd hq1 c677
set_option maxHeartbeats 4000000 in
set_option maxRecDepth 100000 in
theorem law_16 {p : Program} {l : Launch} {e : Env} {s : State} {m : MethodId} {below : List Frame} {meth : Method} {c : Code} {D : va_G} {y : Nat → ClassId} {b L : Nat} {xs : Nat → Int32} (hL : L ≤ 2560) (C0 : lw_At p s m meth c b L xs) (hO : Ok D y s) {A : Nat → Prop} (hAe : A = fun q => s.heap.size ≤ q) {i : Nat} (hi : i + 5 ≤ L) (ad : Nat → Nat) (cap : Nat → Nat) (I : Nat → Nat → Int32) (J : Nat → Nat → Int64) (T : Nat → Nat → Nat) (fl : Nat) (TL : Nat → Nat → Nat) (M : List Th) (R : Nat) (hI : Inv I J (cap 0) T fl TL M R) {H : Heap} {locs : List Loc} (hP : va_P D vwCl (Wd y ad cap I J) H) (hD : va_D A (Wd y ad cap I J)) (hS : va_S A s.heap H locs) {ls : Array Slot} (hl : lv_has ls 4 [(0, .ref b), (1, .ref (ad 0)), (2, .ref (ad 55)), (3, .int (nI i))]) (kk : ∀ (cap' : Nat → Nat) (I' : Nat → Nat → Int32) (J' : Nat → Nat → Int64) (T' : Nat → Nat → Nat) (fl' : Nat) (TL' : Nat → Nat → Nat) (M' : List Th) (R' : Nat) (H' : Heap) (locs' : List Loc) (ls' : Array Slot), Inv I' J' (cap' 0) T' fl' TL' M' R' → va_P D vwCl (Wd y ad cap' I' J') H' → va_D A (Wd y ad cap' I' J') → va_S A s.heap H' locs' → lv_has ls' 4 [(0, .ref b), (1, .ref (ad 0)), (2, .ref (ad 55)), (3, .int (nI i))] → W p l e room_1 s m #[Value.ref b] below meth c H' locs' (87 + (cap' 0 - 16)) (24606 + 50 * (cap' 0 - 16)) (lw_Z below #[Value.ref b] s) (F0 m 695 ls' [])) : W p l e room_1 s m #[Value.ref b] below meth c H locs (87 + (cap 0 - 16)) (24606 + 50 * (cap 0 - 16)) (lw_Z below #[Value.ref b] s) (F0 m 682 ls []) := by
  obtain ⟨hx, hb, hr, hml, hown, -, hX, hbl, hlocks, -⟩ := C0
  have hown : s.vm.findClass RL = some m.cls := hown
  have hK := hO.1
  have hts : ∀ w ∈ lw_E, w.before #[Value.ref b] s = true := fun w h => hO.2 w h _
  have hA : ∀ q, s.heap.size ≤ q → A q := fun q h => by rw [hAe]; exact h
  have hbA : ¬ A b := by rw [hAe]; exact Nat.not_le.mpr hbl
  obtain ⟨hCI, h3, hRM, h19, hMX, hcp, h54⟩ := id hI
  obtain ⟨hT1, hW, hfl, -, hWL, -⟩ := id hCI
  obtain ⟨hc1, hc2⟩ := isCap_b hcp
  refine lv_aload_n hx hb dL_law_682 rfl (lv_at hl 1 rfl) ?_
  refine wk_i (Wf := Wt y) (run_v (As := []) (rest := []) (b := (ad 0)) hx hb hml hown hO.2 (c_X8_far l D y ad cap I J H.size hT1 hW h54) k_X8_far ml_L_90 ⟨rfl, rfl⟩ ⟨Nat.le_of_ble_eq_true rfl, Nat.le_of_ble_eq_true rfl⟩ (pre_VW hO hP hD (wd_0 y ad cap I J) rfl) rfl hl.1 rfl (Nat.le_of_ble_eq_true rfl) dL_law_683 ⟨(by show 87 + (cap 0 - 16) + 0 ≤ 600000; omega), (by show 24606 + 50 * (cap 0 - 16) + 0 ≤ 7302250; omega)⟩) hD hS hA (fun r683 u683 H locs hp683 hP hD hS => ?_)
  try dsimp only at hp683
  obtain ⟨e683, J683, rfl, hEJ683⟩ := hp683
  have hP : va_P D vwCl (Wd y ad cap I J683) H := hP
  have hD : va_D A (Wd y ad cap I J683) := hD
  refine lv_aload_n hx hb dL_law_686 rfl (lv_at hl 2 rfl) ?_
  refine wk_i (Wf := Wt y) (run_v (As := []) (rest := [.int r683]) (b := (ad 55)) hx hb hml hown hO.2 (c_X9_far l D y ad cap I J683 H.size hRM hW) k_X9_far ml_L_93 ⟨rfl, rfl⟩ ⟨Nat.le_of_ble_eq_true rfl, Nat.le_of_ble_eq_true rfl⟩ (pre_VW hO hP hD (wd_55 y ad cap I J683) rfl) rfl hl.1 rfl (Nat.le_of_ble_eq_true rfl) dL_law_687 ⟨(by show 87 + (cap 0 - 16) + 0 ≤ 600000; omega), (by show 24606 + 50 * (cap 0 - 16) + 0 ≤ 7302250; omega)⟩) hD hS hA (fun r687 u687 H locs hp687 hP hD hS => ?_)
  try dsimp only at hp687
  obtain ⟨e687, J687, rfl, hEJ687⟩ := hp687
  have hP : va_P D vwCl (Wd y ad cap I J687) H := hP
  have hD : va_D A (Wd y ad cap I J687) := hD
  have hq1 : r683 = r687 := e683.trans e687.symm
  have hI9 := Inv_far hI hEJ683 hEJ687
  refine lv_icmp_eq (tgt := 695) hx hb dL_law_690 (by decide) (fun c690 => ?_) (fun c690 => ?_)
  · skip
    exact kk cap I J687 _ _ _ _ _ _ _ ls hI9 hP hD hS (by exact lv_sub hl [0, 1, 2, 3] rfl)
  · skip
    exact absurd hq1 c690
