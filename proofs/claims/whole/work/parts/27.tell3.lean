theorem EqX.tr2 {S1 S2 S : List Nat} {I I1 I2 : Nat → Nat → Int32} (h1 : EqX S1 I I1) (h2 : EqX S2 I1 I2) (hs1 : ∀ k, k ∈ S1 → k ∈ S) (hs2 : ∀ k, k ∈ S2 → k ∈ S) : EqX S I I2 := fun j hj => by
  rw [h2 j (fun e => hj (hs2 j e)), h1 j (fun e => hj (hs1 j e))]
theorem nI_n1 {n : Nat} (h : n < 2 ^ 31) : ¬ nI n = -1 := fun h1 => by
  have h2 := congrArg Int32.toInt h1
  rw [nI_toInt h] at h2
  have h3 : (-1 : Int32).toInt = -1 := rfl
  omega
theorem q_one {q : Nat} (h : q ≤ 1) (h1 : nI q = 1) : q = 1 := by
  rcases (show q = 0 ∨ q = 1 by omega) with rfl | rfl
  · exact absurd h1 (by decide)
  · rfl
theorem q_zero {q : Nat} (h : q ≤ 1) (h1 : nI q = 0) : q = 0 := by
  rcases (show q = 0 ∨ q = 1 by omega) with rfl | rfl
  · rfl
  · exact absurd h1 (by decide)
set_option maxHeartbeats 4000000 in
set_option maxRecDepth 100000 in
theorem c_X8_section (l : Launch) (D : va_G) (y : Nat → ClassId) (ad : Nat → Nat) (cap : Nat → Nat) (I : Nat → Nat → Int32) (J : Nat → Nat → Int64) (sz : Nat) {T : Nat → Nat → Nat} (hT : RT1 I T) (hW : WF T) (p1 p2 : Int32) {q0 : Nat} (hq0 : q0 ≤ 1) : Met l yX8_section [.code yX8_section cX8_section 4 (some .int)] ({ frames := 2, cells := 0, slots := 0, locals := 44 }) (va_Pc [.ref (ad 0), .int p1, .int p2, .int (nI q0)] (PW D y (Wd y ad cap I J) sz)) (va_Qi (fun (r : Int32) (u : St4) => ∃ I', u = (ad, cap, I', J) ∧ EqX [0, 2, 3, 4, 5] I I' ∧ (secV T p1 p2 → r = nI (T 0 0) ∧ RT1 I' (addS T p1.toNatClampNeg p2.toNatClampNeg q0) ∧ I' 0 4 = 1) ∧ (¬ secV T p1 p2 → r = -1 ∧ I' = I)) (Aft D (Wt y) (Wd y ad cap I J) sz) (va_A (Wd y ad cap I J) sz)) 0 0 (va_A (Wd y ad cap I J) sz) := by
  refine Met.ofW (cc := cX8_section) (maxL := 4) (ret := (some .int)) (by decide) rfl ?_
  intro p e s m args below meth c s₁ B hml hv
  obtain ⟨rfl, rfl, hP, hD0, hO⟩ := hv
  have hx := B.exec
  have hb := B.bytes
  have hr := B.returns
  have hown : s.vm.findClass RX8 = some m.cls := findClass_of_methodNamed B.named
  have hlocks := B.notSynchronized
  have hK := hO.1
  have hts : ∀ w ∈ lw_E, w.before ([.ref (ad 0), .int p1, .int p2, .int (nI q0)] : List Value).toArray s = true := fun w h => hO.2 w h _
  clear B
  have hD := hD0.self (sz := s.heap.size)
  generalize hAe : va_A (Wd y ad cap I J) s.heap.size = A at hD ⊢
  have hA : ∀ q : Nat, s.heap.size ≤ q → A q := fun q h => by rw [← hAe]; exact Or.inr h
  have hS : va_S A s.heap s.heap [] := va_S.rf
  have hl := lv_entry ([.ref (ad 0), .int p1, .int p2, .int (nI q0)]) (n := 4) (Nat.le_of_ble_eq_true rfl)
  rw [lg_entry_eq]
  generalize (lg_sl ([.ref (ad 0), .int p1, .int p2, .int (nI q0)]) ++ List.replicate (4 - (lg_sl ([.ref (ad 0), .int p1, .int p2, .int (nI q0)])).length) Slot.unset).toArray = ls at hl ⊢
  have hl : lv_has ls 4 [(0, .ref (ad 0)), (1, .int p1), (2, .int p2), (3, .int (nI q0))] := hl
  have hW0 := hW
  obtain ⟨⟨w1, w2, w3, w4, w5, w6, w7⟩, wS, wL, wB, wK, wTk, wT0⟩ := hW
  refine lv_aload_n hx hb dX8_section_0 rfl (lv_at hl 0 rfl) ?_
  refine lv_aload_n hx hb dX8_section_1 rfl (lv_at hl 0 rfl) ?_
  refine va_get (D := D) (T := TX8) (N := 5) hx hb hts jnX8 hown hK hP 0 (wd_0 y ad cap I J) rfl 0 (by decide) (hts _ fl_X8_12) (fun _ h9 => h9) rfl dX8_section_2 ?_
  refine va_getN (D := D) (T := TX7) (N := 8) hx hb hts jnX7 hown hK hP 1 (wd_1 y ad cap I J) rfl 0 (by decide) (hts _ fn_X8_38) (fun _ h9 => h9) rfl dX8_section_5 ?_
  refine lv_iload_n hx hb dX8_section_8 rfl (lv_at hl 1 rfl) ?_
  refine lv_iload_n hx hb dX8_section_9 rfl (lv_at hl 2 rfl) ?_
  refine lv_iload_n hx hb dX8_section_10 rfl (lv_at hl 3 rfl) ?_
  refine wk_i (Wf := Wt y) (run_vn (As := [.int p1, .int p2, .int (nI q0)]) (rest := [.ref (ad 0)]) (b := (ad 2)) hx hb hml hown hO.2 (c_X5_append l D y ad cap I J s.heap.size hT hW0 p1 p2 hq0) k_X5_append mn_X8_42 ⟨rfl, rfl⟩ ⟨Nat.le_of_ble_eq_true rfl, Nat.le_of_ble_eq_true rfl⟩ (pre_VW hO hP hD (wd_2 y ad cap I J) rfl) rfl hl.1 rfl (Nat.le_of_ble_eq_true rfl) dX8_section_11 ⟨(Nat.zero_le _), (Nat.zero_le _)⟩) hD hS hA (fun r11 u11 H locs hp11 hP hD hS => ?_)
  try dsimp only at hp11
  obtain ⟨I11, rfl, hE11, hY11, hN11⟩ := hp11
  have hP : va_P D vwCl (Wd y ad cap I11 J) H := hP
  have hD : va_D A (Wd y ad cap I11 J) := hD
  refine wk_i (Wf := Wt y) (run_v (As := [.int r11]) (rest := []) (b := (ad 0)) hx hb hml hown hO.2 (c_X8_notedNumber l D y ad cap I11 J H.size r11) k_X8_notedNumber ml_X8_48 ⟨rfl, rfl⟩ ⟨Nat.le_of_ble_eq_true rfl, Nat.le_of_ble_eq_true rfl⟩ (pre_VW hO hP hD (wd_0 y ad cap I11 J) rfl) rfl hl.1 rfl (Nat.le_of_ble_eq_true rfl) dX8_section_14 ⟨(Nat.zero_le _), (Nat.zero_le _)⟩) hD hS hA (fun r14 u14 H locs hp14 hP hD hS => ?_)
  try dsimp only at hp14
  obtain ⟨er14, I14, rfl, hE14, hY14, hN14⟩ := hp14
  have hP : va_P D vwCl (Wd y ad cap I14 J) H := hP
  have hD : va_D A (Wd y ad cap I14 J) := hD
  refine W.iret (v := r14) hx hb hr (fun t ht hW => ⟨⟨_, (ad, cap, I14, J), rfl, ?_, by rw [ht]; exact hP, by show va_D (va_A (Wd y ad cap I J) s.heap.size) _; rw [hAe]; exact hD⟩, hS.F ht⟩) hS.2.2 dX8_section_17
  refine ⟨I14, rfl, EqX.tr2 hE11 hE14 (by decide) (by decide), fun hv => ?_, fun hv => ?_⟩
  · obtain ⟨g1, g2⟩ := hY11 hv
    exact ⟨er14.trans g1, RT1_0 g2 hE14, hY14 (by rw [g1]; exact nI_n1 (by omega))⟩
  · obtain ⟨g1, g2⟩ := hN11 hv
    exact ⟨er14.trans g1, (hN14 g1).trans g2⟩
set_option maxHeartbeats 4000000 in
set_option maxRecDepth 100000 in
theorem c_X8_kind (l : Launch) (D : va_G) (y : Nat → ClassId) (ad : Nat → Nat) (cap : Nat → Nat) (I : Nat → Nat → Int32) (J : Nat → Nat → Int64) (sz : Nat) {T : Nat → Nat → Nat} (hT : RT1 I T) (hW : WF T) (p1 p2 p3 : Int32) : Met l yX8_kind [.code yX8_kind cX8_kind 4 (some .boolean)] ({ frames := 2, cells := 0, slots := 0, locals := 44 }) (va_Pc [.ref (ad 0), .int p1, .int p2, .int p3] (PW D y (Wd y ad cap I J) sz)) (va_Qi (fun (r : Int32) (u : St4) => ∃ I', u = (ad, cap, I', J) ∧ EqX [0, 10, 11] I I' ∧ (kndV p1 p2 p3 → r = 1 ∧ RT1 I' (addK T p1.toNatClampNeg (pw p2) p3.toNatClampNeg) ∧ I' 0 4 = 1) ∧ (¬ kndV p1 p2 p3 → r = 0 ∧ I' = I)) (Aft D (Wt y) (Wd y ad cap I J) sz) (va_A (Wd y ad cap I J) sz)) 0 0 (va_A (Wd y ad cap I J) sz) := by
  refine Met.ofW (cc := cX8_kind) (maxL := 4) (ret := (some .boolean)) (by decide) rfl ?_
  intro p e s m args below meth c s₁ B hml hv
  obtain ⟨rfl, rfl, hP, hD0, hO⟩ := hv
  have hx := B.exec
  have hb := B.bytes
  have hr := B.returns
  have hown : s.vm.findClass RX8 = some m.cls := findClass_of_methodNamed B.named
  have hlocks := B.notSynchronized
  have hK := hO.1
  have hts : ∀ w ∈ lw_E, w.before ([.ref (ad 0), .int p1, .int p2, .int p3] : List Value).toArray s = true := fun w h => hO.2 w h _
  clear B
  have hD := hD0.self (sz := s.heap.size)
  generalize hAe : va_A (Wd y ad cap I J) s.heap.size = A at hD ⊢
  have hA : ∀ q : Nat, s.heap.size ≤ q → A q := fun q h => by rw [← hAe]; exact Or.inr h
  have hS : va_S A s.heap s.heap [] := va_S.rf
  have hl := lv_entry ([.ref (ad 0), .int p1, .int p2, .int p3]) (n := 4) (Nat.le_of_ble_eq_true rfl)
  rw [lg_entry_eq]
  generalize (lg_sl ([.ref (ad 0), .int p1, .int p2, .int p3]) ++ List.replicate (4 - (lg_sl ([.ref (ad 0), .int p1, .int p2, .int p3])).length) Slot.unset).toArray = ls at hl ⊢
  have hl : lv_has ls 4 [(0, .ref (ad 0)), (1, .int p1), (2, .int p2), (3, .int p3)] := hl
  have hW0 := hW
  obtain ⟨⟨w1, w2, w3, w4, w5, w6, w7⟩, wS, wL, wB, wK, wTk, wT0⟩ := hW
  refine lv_aload_n hx hb dX8_kind_0 rfl (lv_at hl 0 rfl) ?_
  refine lv_aload_n hx hb dX8_kind_1 rfl (lv_at hl 0 rfl) ?_
  refine va_get (D := D) (T := TX8) (N := 5) hx hb hts jnX8 hown hK hP 0 (wd_0 y ad cap I J) rfl 0 (by decide) (hts _ fl_X8_12) (fun _ h9 => h9) rfl dX8_kind_2 ?_
  refine va_getN (D := D) (T := TX7) (N := 8) hx hb hts jnX7 hown hK hP 1 (wd_1 y ad cap I J) rfl 2 (by decide) (hts _ fn_X8_68) (fun _ h9 => h9) rfl dX8_kind_5 ?_
  refine lv_iload_n hx hb dX8_kind_8 rfl (lv_at hl 1 rfl) ?_
  refine lv_iload_n hx hb dX8_kind_9 rfl (lv_at hl 2 rfl) ?_
  refine lv_iload_n hx hb dX8_kind_10 rfl (lv_at hl 3 rfl) ?_
  refine wk_i (Wf := Wt y) (run_vn (As := [.int p1, .int p2, .int p3]) (rest := [.ref (ad 0)]) (b := (ad 9)) hx hb hml hown hO.2 (c_X2_tell l D y ad cap I J s.heap.size hT hW0 p1 p2 p3) k_X2_tell mn_X8_72 ⟨rfl, rfl⟩ ⟨Nat.le_of_ble_eq_true rfl, Nat.le_of_ble_eq_true rfl⟩ (pre_VW hO hP hD (wd_9 y ad cap I J) rfl) rfl hl.1 rfl (Nat.le_of_ble_eq_true rfl) dX8_kind_11 ⟨(Nat.zero_le _), (Nat.zero_le _)⟩) hD hS hA (fun r11 u11 H locs hp11 hP hD hS => ?_)
  try dsimp only at hp11
  obtain ⟨I11, rfl, hE11, hY11, hN11⟩ := hp11
  obtain ⟨q11, hq11, er11⟩ : ∃ q, q ≤ 1 ∧ r11 = nI q := by
    by_cases hv : kndV p1 p2 p3
    · exact ⟨1, by omega, (hY11 hv).1⟩
    · exact ⟨0, by omega, (hN11 hv).1⟩
  subst er11
  have hP : va_P D vwCl (Wd y ad cap I11 J) H := hP
  have hD : va_D A (Wd y ad cap I11 J) := hD
  refine wk_i (Wf := Wt y) (run_v (As := [.int (nI q11)]) (rest := []) (b := (ad 0)) hx hb hml hown hO.2 (c_X8_noted l D y ad cap I11 J H.size (q0 := q11) hq11) k_X8_noted ml_X8_78 ⟨rfl, rfl⟩ ⟨Nat.le_of_ble_eq_true rfl, Nat.le_of_ble_eq_true rfl⟩ (pre_VW hO hP hD (wd_0 y ad cap I11 J) rfl) rfl hl.1 rfl (Nat.le_of_ble_eq_true rfl) dX8_kind_14 ⟨(Nat.zero_le _), (Nat.zero_le _)⟩) hD hS hA (fun r14 u14 H locs hp14 hP hD hS => ?_)
  try dsimp only at hp14
  obtain ⟨er14, I14, rfl, hE14, hY14, hN14⟩ := hp14
  have hP : va_P D vwCl (Wd y ad cap I14 J) H := hP
  have hD : va_D A (Wd y ad cap I14 J) := hD
  refine W.zret (v := r14) hx hb hr (by rw [er14]; exact fit01 hq11) (fun t ht hW => ⟨⟨_, (ad, cap, I14, J), rfl, ?_, by rw [ht]; exact hP, by show va_D (va_A (Wd y ad cap I J) s.heap.size) _; rw [hAe]; exact hD⟩, hS.F ht⟩) hS.2.2 dX8_kind_17
  refine ⟨I14, rfl, EqX.tr2 hE11 hE14 (by decide) (by decide), fun hv => ?_, fun hv => ?_⟩
  · obtain ⟨g1, g2⟩ := hY11 hv
    exact ⟨er14.trans g1, RT1_0 g2 hE14, hY14 (q_one hq11 g1)⟩
  · obtain ⟨g1, g2⟩ := hN11 hv
    exact ⟨er14.trans g1, (hN14 (q_zero hq11 g1)).trans g2⟩
set_option maxHeartbeats 4000000 in
set_option maxRecDepth 100000 in
theorem c_X8_thunks (l : Launch) (D : va_G) (y : Nat → ClassId) (ad : Nat → Nat) (cap : Nat → Nat) (I : Nat → Nat → Int32) (J : Nat → Nat → Int64) (sz : Nat) {T : Nat → Nat → Nat} (hT : RT1 I T) (hW : WF T) (p1 p2 p3 : Int32) : Met l yX8_thunks [.code yX8_thunks cX8_thunks 4 (some .boolean)] ({ frames := 2, cells := 0, slots := 0, locals := 44 }) (va_Pc [.ref (ad 0), .int p1, .int p2, .int p3] (PW D y (Wd y ad cap I J) sz)) (va_Qi (fun (r : Int32) (u : St4) => ∃ I', u = (ad, cap, I', J) ∧ EqX [0, 1] I I' ∧ (thkV T p1 p2 p3 → r = 1 ∧ RT1 I' (addT T p1.toNatClampNeg p2.toNatClampNeg p3.toNatClampNeg) ∧ I' 0 4 = 1) ∧ (¬ thkV T p1 p2 p3 → r = 0 ∧ I' = I)) (Aft D (Wt y) (Wd y ad cap I J) sz) (va_A (Wd y ad cap I J) sz)) 0 0 (va_A (Wd y ad cap I J) sz) := by
  refine Met.ofW (cc := cX8_thunks) (maxL := 4) (ret := (some .boolean)) (by decide) rfl ?_
  intro p e s m args below meth c s₁ B hml hv
  obtain ⟨rfl, rfl, hP, hD0, hO⟩ := hv
  have hx := B.exec
  have hb := B.bytes
  have hr := B.returns
  have hown : s.vm.findClass RX8 = some m.cls := findClass_of_methodNamed B.named
  have hlocks := B.notSynchronized
  have hK := hO.1
  have hts : ∀ w ∈ lw_E, w.before ([.ref (ad 0), .int p1, .int p2, .int p3] : List Value).toArray s = true := fun w h => hO.2 w h _
  clear B
  have hD := hD0.self (sz := s.heap.size)
  generalize hAe : va_A (Wd y ad cap I J) s.heap.size = A at hD ⊢
  have hA : ∀ q : Nat, s.heap.size ≤ q → A q := fun q h => by rw [← hAe]; exact Or.inr h
  have hS : va_S A s.heap s.heap [] := va_S.rf
  have hl := lv_entry ([.ref (ad 0), .int p1, .int p2, .int p3]) (n := 4) (Nat.le_of_ble_eq_true rfl)
  rw [lg_entry_eq]
  generalize (lg_sl ([.ref (ad 0), .int p1, .int p2, .int p3]) ++ List.replicate (4 - (lg_sl ([.ref (ad 0), .int p1, .int p2, .int p3])).length) Slot.unset).toArray = ls at hl ⊢
  have hl : lv_has ls 4 [(0, .ref (ad 0)), (1, .int p1), (2, .int p2), (3, .int p3)] := hl
  have hW0 := hW
  obtain ⟨⟨w1, w2, w3, w4, w5, w6, w7⟩, wS, wL, wB, wK, wTk, wT0⟩ := hW
  refine lv_aload_n hx hb dX8_thunks_0 rfl (lv_at hl 0 rfl) ?_
  refine lv_aload_n hx hb dX8_thunks_1 rfl (lv_at hl 0 rfl) ?_
  refine va_get (D := D) (T := TX8) (N := 5) hx hb hts jnX8 hown hK hP 0 (wd_0 y ad cap I J) rfl 0 (by decide) (hts _ fl_X8_12) (fun _ h9 => h9) rfl dX8_thunks_2 ?_
  refine lv_iload_n hx hb dX8_thunks_5 rfl (lv_at hl 1 rfl) ?_
  refine lv_iload_n hx hb dX8_thunks_6 rfl (lv_at hl 2 rfl) ?_
  refine lv_iload_n hx hb dX8_thunks_7 rfl (lv_at hl 3 rfl) ?_
  refine wk_i (Wf := Wt y) (run_vn (As := [.int p1, .int p2, .int p3]) (rest := [.ref (ad 0)]) (b := (ad 1)) hx hb hml hown hO.2 (c_X7_tellThunks l D y ad cap I J s.heap.size hT hW0 p1 p2 p3) k_X7_tellThunks mn_X8_93 ⟨rfl, rfl⟩ ⟨Nat.le_of_ble_eq_true rfl, Nat.le_of_ble_eq_true rfl⟩ (pre_VW hO hP hD (wd_1 y ad cap I J) rfl) rfl hl.1 rfl (Nat.le_of_ble_eq_true rfl) dX8_thunks_8 ⟨(Nat.zero_le _), (Nat.zero_le _)⟩) hD hS hA (fun r8 u8 H locs hp8 hP hD hS => ?_)
  try dsimp only at hp8
  obtain ⟨I8, rfl, hE8, hY8, hN8⟩ := hp8
  obtain ⟨q8, hq8, er8⟩ : ∃ q, q ≤ 1 ∧ r8 = nI q := by
    by_cases hv : thkV T p1 p2 p3
    · exact ⟨1, by omega, (hY8 hv).1⟩
    · exact ⟨0, by omega, (hN8 hv).1⟩
  subst er8
  have hP : va_P D vwCl (Wd y ad cap I8 J) H := hP
  have hD : va_D A (Wd y ad cap I8 J) := hD
  refine wk_i (Wf := Wt y) (run_v (As := [.int (nI q8)]) (rest := []) (b := (ad 0)) hx hb hml hown hO.2 (c_X8_noted l D y ad cap I8 J H.size (q0 := q8) hq8) k_X8_noted ml_X8_78 ⟨rfl, rfl⟩ ⟨Nat.le_of_ble_eq_true rfl, Nat.le_of_ble_eq_true rfl⟩ (pre_VW hO hP hD (wd_0 y ad cap I8 J) rfl) rfl hl.1 rfl (Nat.le_of_ble_eq_true rfl) dX8_thunks_11 ⟨(Nat.zero_le _), (Nat.zero_le _)⟩) hD hS hA (fun r11 u11 H locs hp11 hP hD hS => ?_)
  try dsimp only at hp11
  obtain ⟨er11, I11, rfl, hE11, hY11, hN11⟩ := hp11
  have hP : va_P D vwCl (Wd y ad cap I11 J) H := hP
  have hD : va_D A (Wd y ad cap I11 J) := hD
  refine W.zret (v := r11) hx hb hr (by rw [er11]; exact fit01 hq8) (fun t ht hW => ⟨⟨_, (ad, cap, I11, J), rfl, ?_, by rw [ht]; exact hP, by show va_D (va_A (Wd y ad cap I J) s.heap.size) _; rw [hAe]; exact hD⟩, hS.F ht⟩) hS.2.2 dX8_thunks_14
  refine ⟨I11, rfl, EqX.tr2 hE8 hE11 (by decide) (by decide), fun hv => ?_, fun hv => ?_⟩
  · obtain ⟨g1, g2⟩ := hY8 hv
    exact ⟨er11.trans g1, RT1_0 g2 hE11, hY11 (q_one hq8 g1)⟩
  · obtain ⟨g1, g2⟩ := hN8 hv
    exact ⟨er11.trans g1, (hN11 (q_zero hq8 g1)).trans g2⟩
set_option maxHeartbeats 4000000 in
set_option maxRecDepth 100000 in
theorem c_X8_resize (l : Launch) (D : va_G) (y : Nat → ClassId) (ad : Nat → Nat) (cap : Nat → Nat) (I : Nat → Nat → Int32) (J : Nat → Nat → Int64) (sz : Nat) {T : Nat → Nat → Nat} (hT : RT1 I T) (hW : WF T) (p1 p2 : Int32) : Met l yX8_resize [.code yX8_resize cX8_resize 3 (some .boolean)] ({ frames := 3, cells := 0, slots := 0, locals := 58 }) (va_Pc [.ref (ad 0), .int p1, .int p2] (PW D y (Wd y ad cap I J) sz)) (va_Qi (fun (r : Int32) (u : St4) => ∃ I', u = (ad, cap, I', J) ∧ EqX [0, 3] I I' ∧ (rszV T p1 p2 → r = 1 ∧ RT1 I' (setS T p1.toNatClampNeg p2.toNatClampNeg) ∧ I' 0 4 = 1) ∧ (¬ rszV T p1 p2 → r = 0 ∧ I' = I)) (Aft D (Wt y) (Wd y ad cap I J) sz) (va_A (Wd y ad cap I J) sz)) 0 0 (va_A (Wd y ad cap I J) sz) := by
  refine Met.ofW (cc := cX8_resize) (maxL := 3) (ret := (some .boolean)) (by decide) rfl ?_
  intro p e s m args below meth c s₁ B hml hv
  obtain ⟨rfl, rfl, hP, hD0, hO⟩ := hv
  have hx := B.exec
  have hb := B.bytes
  have hr := B.returns
  have hown : s.vm.findClass RX8 = some m.cls := findClass_of_methodNamed B.named
  have hlocks := B.notSynchronized
  have hK := hO.1
  have hts : ∀ w ∈ lw_E, w.before ([.ref (ad 0), .int p1, .int p2] : List Value).toArray s = true := fun w h => hO.2 w h _
  clear B
  have hD := hD0.self (sz := s.heap.size)
  generalize hAe : va_A (Wd y ad cap I J) s.heap.size = A at hD ⊢
  have hA : ∀ q : Nat, s.heap.size ≤ q → A q := fun q h => by rw [← hAe]; exact Or.inr h
  have hS : va_S A s.heap s.heap [] := va_S.rf
  have hl := lv_entry ([.ref (ad 0), .int p1, .int p2]) (n := 3) (Nat.le_of_ble_eq_true rfl)
  rw [lg_entry_eq]
  generalize (lg_sl ([.ref (ad 0), .int p1, .int p2]) ++ List.replicate (3 - (lg_sl ([.ref (ad 0), .int p1, .int p2])).length) Slot.unset).toArray = ls at hl ⊢
  have hl : lv_has ls 3 [(0, .ref (ad 0)), (1, .int p1), (2, .int p2)] := hl
  have hW0 := hW
  obtain ⟨⟨w1, w2, w3, w4, w5, w6, w7⟩, wS, wL, wB, wK, wTk, wT0⟩ := hW
  refine lv_aload_n hx hb dX8_resize_0 rfl (lv_at hl 0 rfl) ?_
  refine lv_aload_n hx hb dX8_resize_1 rfl (lv_at hl 0 rfl) ?_
  refine va_get (D := D) (T := TX8) (N := 5) hx hb hts jnX8 hown hK hP 0 (wd_0 y ad cap I J) rfl 0 (by decide) (hts _ fl_X8_12) (fun _ h9 => h9) rfl dX8_resize_2 ?_
  refine lv_iload_n hx hb dX8_resize_5 rfl (lv_at hl 1 rfl) ?_
  refine lv_iload_n hx hb dX8_resize_6 rfl (lv_at hl 2 rfl) ?_
  refine wk_i (Wf := Wt y) (run_vn (As := [.int p1, .int p2]) (rest := [.ref (ad 0)]) (b := (ad 1)) hx hb hml hown hO.2 (c_X7_changeSize l D y ad cap I J s.heap.size hT hW0 p1 p2) k_X7_changeSize mn_X8_100 ⟨rfl, rfl⟩ ⟨Nat.le_of_ble_eq_true rfl, Nat.le_of_ble_eq_true rfl⟩ (pre_VW hO hP hD (wd_1 y ad cap I J) rfl) rfl hl.1 rfl (Nat.le_of_ble_eq_true rfl) dX8_resize_7 ⟨(Nat.zero_le _), (Nat.zero_le _)⟩) hD hS hA (fun r7 u7 H locs hp7 hP hD hS => ?_)
  try dsimp only at hp7
  obtain ⟨I7, rfl, hE7, hY7, hN7⟩ := hp7
  obtain ⟨q7, hq7, er7⟩ : ∃ q, q ≤ 1 ∧ r7 = nI q := by
    by_cases hv : rszV T p1 p2
    · exact ⟨1, by omega, (hY7 hv).1⟩
    · exact ⟨0, by omega, (hN7 hv).1⟩
  subst er7
  have hP : va_P D vwCl (Wd y ad cap I7 J) H := hP
  have hD : va_D A (Wd y ad cap I7 J) := hD
  refine wk_i (Wf := Wt y) (run_v (As := [.int (nI q7)]) (rest := []) (b := (ad 0)) hx hb hml hown hO.2 (c_X8_noted l D y ad cap I7 J H.size (q0 := q7) hq7) k_X8_noted ml_X8_78 ⟨rfl, rfl⟩ ⟨Nat.le_of_ble_eq_true rfl, Nat.le_of_ble_eq_true rfl⟩ (pre_VW hO hP hD (wd_0 y ad cap I7 J) rfl) rfl hl.1 rfl (Nat.le_of_ble_eq_true rfl) dX8_resize_10 ⟨(Nat.zero_le _), (Nat.zero_le _)⟩) hD hS hA (fun r10 u10 H locs hp10 hP hD hS => ?_)
  try dsimp only at hp10
  obtain ⟨er10, I10, rfl, hE10, hY10, hN10⟩ := hp10
  have hP : va_P D vwCl (Wd y ad cap I10 J) H := hP
  have hD : va_D A (Wd y ad cap I10 J) := hD
  refine W.zret (v := r10) hx hb hr (by rw [er10]; exact fit01 hq7) (fun t ht hW => ⟨⟨_, (ad, cap, I10, J), rfl, ?_, by rw [ht]; exact hP, by show va_D (va_A (Wd y ad cap I J) s.heap.size) _; rw [hAe]; exact hD⟩, hS.F ht⟩) hS.2.2 dX8_resize_13
  refine ⟨I10, rfl, EqX.tr2 hE7 hE10 (by decide) (by decide), fun hv => ?_, fun hv => ?_⟩
  · obtain ⟨g1, g2⟩ := hY7 hv
    exact ⟨er10.trans g1, RT1_0 g2 hE10, hY10 (q_one hq7 g1)⟩
  · obtain ⟨g1, g2⟩ := hN7 hv
    exact ⟨er10.trans g1, (hN10 (q_zero hq7 g1)).trans g2⟩
set_option maxHeartbeats 4000000 in
set_option maxRecDepth 100000 in
theorem c_X8_base (l : Launch) (D : va_G) (y : Nat → ClassId) (ad : Nat → Nat) (cap : Nat → Nat) (I : Nat → Nat → Int32) (J : Nat → Nat → Int64) (sz : Nat) {T : Nat → Nat → Nat} (hT : RT1 I T) (hW : WF T) (p1 : Int32) : Met l yX8_base [.code yX8_base cX8_base 2 (some .boolean)] ({ frames := 1, cells := 0, slots := 0, locals := 21 }) (va_Pc [.ref (ad 0), .int p1] (PW D y (Wd y ad cap I J) sz)) (va_Qi (fun (r : Int32) (u : St4) => ∃ I', u = (ad, cap, I', J) ∧ EqX [0, 1] I I' ∧ (¬ p1 < 0 → r = 1 ∧ RT1 I' (addA T p1.toNatClampNeg) ∧ I' 0 4 = 1) ∧ (¬ ¬ p1 < 0 → r = 0 ∧ I' = I)) (Aft D (Wt y) (Wd y ad cap I J) sz) (va_A (Wd y ad cap I J) sz)) 0 0 (va_A (Wd y ad cap I J) sz) := by
  refine Met.ofW (cc := cX8_base) (maxL := 2) (ret := (some .boolean)) (by decide) rfl ?_
  intro p e s m args below meth c s₁ B hml hv
  obtain ⟨rfl, rfl, hP, hD0, hO⟩ := hv
  have hx := B.exec
  have hb := B.bytes
  have hr := B.returns
  have hown : s.vm.findClass RX8 = some m.cls := findClass_of_methodNamed B.named
  have hlocks := B.notSynchronized
  have hK := hO.1
  have hts : ∀ w ∈ lw_E, w.before ([.ref (ad 0), .int p1] : List Value).toArray s = true := fun w h => hO.2 w h _
  clear B
  have hD := hD0.self (sz := s.heap.size)
  generalize hAe : va_A (Wd y ad cap I J) s.heap.size = A at hD ⊢
  have hA : ∀ q : Nat, s.heap.size ≤ q → A q := fun q h => by rw [← hAe]; exact Or.inr h
  have hS : va_S A s.heap s.heap [] := va_S.rf
  have hl := lv_entry ([.ref (ad 0), .int p1]) (n := 2) (Nat.le_of_ble_eq_true rfl)
  rw [lg_entry_eq]
  generalize (lg_sl ([.ref (ad 0), .int p1]) ++ List.replicate (2 - (lg_sl ([.ref (ad 0), .int p1])).length) Slot.unset).toArray = ls at hl ⊢
  have hl : lv_has ls 2 [(0, .ref (ad 0)), (1, .int p1)] := hl
  have hW0 := hW
  obtain ⟨⟨w1, w2, w3, w4, w5, w6, w7⟩, wS, wL, wB, wK, wTk, wT0⟩ := hW
  refine lv_iload_n hx hb dX8_base_0 rfl (lv_at hl 1 rfl) ?_
  refine lv_if_ge (tgt := 6) hx hb dX8_base_1 (by decide) (fun c1 => ?_) (fun c1 => ?_)
  · skip
    have hV : ¬ p1 < 0 := Int32.not_lt.mpr c1
    obtain ⟨a, ha, a1⟩ := nI_of hV
    have a2 : p1.toNatClampNeg = a := by rw [a1]; exact nI_clamp (by omega)
    rw [a2]
    subst a1
    refine lv_aload_n hx hb dX8_base_6 rfl (lv_at hl 0 rfl) ?_
    refine va_get (D := D) (T := TX8) (N := 5) hx hb hts jnX8 hown hK hP 0 (wd_0 y ad cap I J) rfl 0 (by decide) (hts _ fl_X8_12) (fun _ h9 => h9) rfl dX8_base_7 ?_
    refine lv_iload_n hx hb dX8_base_10 rfl (lv_at hl 1 rfl) ?_
    refine va_putN (D := D) (T := TX7) (N := 8) (v := .int (nI a)) (ty := .int) hx hb hts jnX7 tyX7 tyX7_ok nmX7 hown hK hP hD hS 1 (wd_1 y ad cap I J) rfl 4 (by decide) (hts _ fn_X8_96) (fun _ h9 => h9) rfl (by decide +kernel) rfl rfl (Nat.le_of_ble_eq_true rfl) dX8_base_11 (fun H locs hP hD hS => ?_)
    rw [wp_1_4] at hP hD
    generalize eI11 : va_up I 1 (upd (I 1) 4 (nI a)) = I11 at hP hD
    refine lv_aload_n hx hb dX8_base_14 rfl (lv_at hl 0 rfl) ?_
    refine lv_iconst (v := 1) hx hb dX8_base_15 (by decide) ?_
    refine wk_i (Wf := Wt y) (run_v (As := [.int 1]) (rest := []) (b := (ad 0)) hx hb hml hown hO.2 (c_X8_noted l D y ad cap I11 J H.size (q0 := 1) (by decide)) k_X8_noted ml_X8_78 ⟨rfl, rfl⟩ ⟨Nat.le_of_ble_eq_true rfl, Nat.le_of_ble_eq_true rfl⟩ (pre_VW hO hP hD (wd_0 y ad cap I11 J) rfl) rfl hl.1 rfl (Nat.le_of_ble_eq_true rfl) dX8_base_16 ⟨(Nat.zero_le _), (Nat.zero_le _)⟩) hD hS hA (fun r16 u16 H locs hp16 hP hD hS => ?_)
    try dsimp only at hp16
    obtain ⟨er16, I16, rfl, hE16, hY16, hN16⟩ := hp16
    have hP : va_P D vwCl (Wd y ad cap I16 J) H := hP
    have hD : va_D A (Wd y ad cap I16 J) := hD
    refine W.zret (v := r16) hx hb hr (by rw [er16]; decide) (fun t ht hW => ⟨⟨_, (ad, cap, I16, J), rfl, ?_, by rw [ht]; exact hP, by show va_D (va_A (Wd y ad cap I J) s.heap.size) _; rw [hAe]; exact hD⟩, hS.F ht⟩) hS.2.2 dX8_base_19
    refine ⟨I16, rfl, EqX.tr2 (S1 := [1]) ?_ hE16 (by decide) (by decide), fun _ => ⟨er16, RT1_0 (RT1_addA (a := a) hT eI11.symm) hE16, hY16 rfl⟩, fun h9 => absurd hV h9⟩
    subst_vars
    refine EqX.up (EqX.rf) ?_ <;> decide
  · skip
    refine lv_iconst (v := 0) hx hb dX8_base_4 (by decide) ?_
    refine W.zret (v := 0) hx hb hr (by decide) (fun t ht hW => ⟨⟨_, (ad, cap, I, J), rfl, ?_, by rw [ht]; exact hP, by show va_D (va_A (Wd y ad cap I J) s.heap.size) _; rw [hAe]; exact hD⟩, hS.F ht⟩) hS.2.2 dX8_base_5
    exact ⟨I, rfl, EqX.rf, fun h9 => absurd (Int32.not_lt.mp h9) c1, fun _ => ⟨rfl, rfl⟩⟩
set_option maxHeartbeats 4000000 in
set_option maxRecDepth 100000 in
theorem c_X8_label (l : Launch) (D : va_G) (y : Nat → ClassId) (ad : Nat → Nat) (cap : Nat → Nat) (I : Nat → Nat → Int32) (J : Nat → Nat → Int64) (sz : Nat) {T : Nat → Nat → Nat} (hT : RT1 I T) (hW : WF T) (p1 p2 : Int32) : Met l yX8_label [.code yX8_label cX8_label 3 (some .int)] ({ frames := 2, cells := 0, slots := 0, locals := 42 }) (va_Pc [.ref (ad 0), .int p1, .int p2] (PW D y (Wd y ad cap I J) sz)) (va_Qi (fun (r : Int32) (u : St4) => ∃ I', u = (ad, cap, I', J) ∧ EqX [0, 6, 7, 8] I I' ∧ (labV T p1 p2 → r = nI (T 0 1) ∧ RT1 I' (addL T p1.toNatClampNeg p2.toNatClampNeg) ∧ I' 0 4 = 1) ∧ (¬ labV T p1 p2 → r = -1 ∧ I' = I)) (Aft D (Wt y) (Wd y ad cap I J) sz) (va_A (Wd y ad cap I J) sz)) 0 0 (va_A (Wd y ad cap I J) sz) := by
  refine Met.ofW (cc := cX8_label) (maxL := 3) (ret := (some .int)) (by decide) rfl ?_
  intro p e s m args below meth c s₁ B hml hv
  obtain ⟨rfl, rfl, hP, hD0, hO⟩ := hv
  have hx := B.exec
  have hb := B.bytes
  have hr := B.returns
  have hown : s.vm.findClass RX8 = some m.cls := findClass_of_methodNamed B.named
  have hlocks := B.notSynchronized
  have hK := hO.1
  have hts : ∀ w ∈ lw_E, w.before ([.ref (ad 0), .int p1, .int p2] : List Value).toArray s = true := fun w h => hO.2 w h _
  clear B
  have hD := hD0.self (sz := s.heap.size)
  generalize hAe : va_A (Wd y ad cap I J) s.heap.size = A at hD ⊢
  have hA : ∀ q : Nat, s.heap.size ≤ q → A q := fun q h => by rw [← hAe]; exact Or.inr h
  have hS : va_S A s.heap s.heap [] := va_S.rf
  have hl := lv_entry ([.ref (ad 0), .int p1, .int p2]) (n := 3) (Nat.le_of_ble_eq_true rfl)
  rw [lg_entry_eq]
  generalize (lg_sl ([.ref (ad 0), .int p1, .int p2]) ++ List.replicate (3 - (lg_sl ([.ref (ad 0), .int p1, .int p2])).length) Slot.unset).toArray = ls at hl ⊢
  have hl : lv_has ls 3 [(0, .ref (ad 0)), (1, .int p1), (2, .int p2)] := hl
  have hW0 := hW
  obtain ⟨⟨w1, w2, w3, w4, w5, w6, w7⟩, wS, wL, wB, wK, wTk, wT0⟩ := hW
  refine lv_aload_n hx hb dX8_label_0 rfl (lv_at hl 0 rfl) ?_
  refine va_get (D := D) (T := TX8) (N := 5) hx hb hts jnX8 hown hK hP 0 (wd_0 y ad cap I J) rfl 0 (by decide) (hts _ fl_X8_12) (fun _ h9 => h9) rfl dX8_label_1 ?_
  refine va_getN (D := D) (T := TX7) (N := 8) hx hb hts jnX7 hown hK hP 1 (wd_1 y ad cap I J) rfl 0 (by decide) (hts _ fn_X8_38) (fun _ h9 => h9) rfl dX8_label_4 ?_
  refine lv_iload_n hx hb dX8_label_7 rfl (lv_at hl 1 rfl) ?_
  refine rk_i (run_vn (As := [.int p1]) (rest := []) (b := (ad 2)) hx hb hml hown hO.2 (c_X5_has l D y (wd_2 y ad cap I J) p1) k_X5_has mn_X8_52 ⟨rfl, rfl⟩ ⟨Nat.le_of_ble_eq_true rfl, Nat.le_of_ble_eq_true rfl⟩ (pre_VR hO hP (wd_2 y ad cap I J) rfl) rfl hl.1 rfl (Nat.le_of_ble_eq_true rfl) dX8_label_8 ⟨(Nat.zero_le _), (Nat.zero_le _)⟩) (fun r8 er8 => ?_)
  try dsimp only at er8
  rw [hT.1.1] at er8
  refine lv_if_ne (tgt := 16) hx hb dX8_label_11 (by decide) (fun c11 => ?_) (fun c11 => ?_)
  · skip
    have c11 := if01_n er8 c11
    obtain ⟨s0, s1, hs0⟩ := ix_ok (n := T 0 0) (by omega) c11
    have s2 : p1.toNatClampNeg = s0 := by rw [s1]; exact nI_clamp (by omega)
    subst s1
    refine lv_iload_n hx hb dX8_label_16 rfl (lv_at hl 2 rfl) ?_
    refine lv_if_lt (tgt := 36) hx hb dX8_label_17 (by decide) (fun c17 => ?_) (fun c17 => ?_)
    · skip
      refine lv_iconst (v := (-1)) hx hb dX8_label_36 (by decide) ?_
      refine W.iret (v := (-1)) hx hb hr (fun t ht hW => ⟨⟨_, (ad, cap, I, J), rfl, ?_, by rw [ht]; exact hP, by show va_D (va_A (Wd y ad cap I J) s.heap.size) _; rw [hAe]; exact hD⟩, hS.F ht⟩) hS.2.2 dX8_label_37
      refine ⟨I, rfl, EqX.rf, fun h9 => absurd h9 (fun h8 => ?_), fun _ => ⟨rfl, rfl⟩⟩
      obtain ⟨g1, g2, g3, g4⟩ := h8
      rw [s2] at g4
      first | exact g3 c17 | exact c33 (Int32.not_lt.mp g4)
    · skip
      refine lv_iload_n hx hb dX8_label_20 rfl (lv_at hl 2 rfl) ?_
      refine lv_aload_n hx hb dX8_label_21 rfl (lv_at hl 0 rfl) ?_
      refine va_get (D := D) (T := TX8) (N := 5) hx hb hts jnX8 hown hK hP 0 (wd_0 y ad cap I J) rfl 0 (by decide) (hts _ fl_X8_12) (fun _ h9 => h9) rfl dX8_label_22 ?_
      refine va_getN (D := D) (T := TX7) (N := 8) hx hb hts jnX7 hown hK hP 1 (wd_1 y ad cap I J) rfl 0 (by decide) (hts _ fn_X8_38) (fun _ h9 => h9) rfl dX8_label_25 ?_
      refine va_getN (D := D) (T := TX5) (N := 5) hx hb hts jnX5 hown hK hP 2 (wd_2 y ad cap I J) rfl 2 (by decide) (hts _ fn_X8_56) (fun _ h9 => h9) rfl dX8_label_28 ?_
      refine lv_iload_n hx hb dX8_label_31 rfl (lv_at hl 1 rfl) ?_
      refine va_iald (D := D) hx hb hK hP 3 0 (wd_3 y ad cap I J) rfl (vp_in_nI (by omega) (by omega)) dX8_label_32 ?_
      rw [nI_clamp (n := s0) (by omega)]
      refine lv_topi (fun v32 ev32 => ?_)
      obtain rfl : v32 = (nI (T 1 s0)) := by
        rw [ev32]; exact (hT.2.1 _ (by omega)).1
      refine lv_icmp_le (tgt := 38) hx hb dX8_label_33 (by decide) (fun c33 => ?_) (fun c33 => ?_)
      · skip
        have hc : inR p2 0 (nI (T 1 s0)) := ⟨c17, Int32.not_lt.mpr c33⟩
        obtain ⟨g5, g6, g7⟩ := wS s0 hs0
        obtain ⟨f1, hf0⟩ := inR_nat (n := T 1 s0) (nI_toInt (by omega)) hc
        have hvv : T 0 1 < 60 ↔ labV T (nI s0) p2 := ⟨fun h9 => ⟨h9, c11, by rw [s2]; exact hc⟩, fun h9 => h9.1⟩
        try rw [s2]
        generalize p2.toNatClampNeg = f0 at f1 hf0 ⊢
        clear c17 c33
        subst f1
        refine lv_aload_n hx hb dX8_label_38 rfl (lv_at hl 0 rfl) ?_
        refine lv_aload_n hx hb dX8_label_39 rfl (lv_at hl 0 rfl) ?_
        refine va_get (D := D) (T := TX8) (N := 5) hx hb hts jnX8 hown hK hP 0 (wd_0 y ad cap I J) rfl 0 (by decide) (hts _ fl_X8_12) (fun _ h9 => h9) rfl dX8_label_40 ?_
        refine va_getN (D := D) (T := TX7) (N := 8) hx hb hts jnX7 hown hK hP 1 (wd_1 y ad cap I J) rfl 1 (by decide) (hts _ fn_X8_59) (fun _ h9 => h9) rfl dX8_label_43 ?_
        refine lv_iload_n hx hb dX8_label_46 rfl (lv_at hl 1 rfl) ?_
        refine lv_iload_n hx hb dX8_label_47 rfl (lv_at hl 2 rfl) ?_
        refine wk_i (Wf := Wt y) (run_vn (As := [.int (nI s0), .int (nI f0)]) (rest := [.ref (ad 0)]) (b := (ad 6)) hx hb hml hown hO.2 (c_X3_append l D y ad cap I J s.heap.size hT hW0 s0 f0) k_X3_append mn_X8_63 ⟨rfl, rfl⟩ ⟨Nat.le_of_ble_eq_true rfl, Nat.le_of_ble_eq_true rfl⟩ (pre_VW hO hP hD (wd_6 y ad cap I J) rfl) rfl hl.1 rfl (Nat.le_of_ble_eq_true rfl) dX8_label_48 ⟨(Nat.zero_le _), (Nat.zero_le _)⟩) hD hS hA (fun r48 u48 H locs hp48 hP hD hS => ?_)
        try dsimp only at hp48
        rw [hvv] at hp48
        obtain ⟨I48, rfl, hE48, hY48, hN48⟩ := hp48
        have hP : va_P D vwCl (Wd y ad cap I48 J) H := hP
        have hD : va_D A (Wd y ad cap I48 J) := hD
        refine wk_i (Wf := Wt y) (run_v (As := [.int r48]) (rest := []) (b := (ad 0)) hx hb hml hown hO.2 (c_X8_notedNumber l D y ad cap I48 J H.size r48) k_X8_notedNumber ml_X8_48 ⟨rfl, rfl⟩ ⟨Nat.le_of_ble_eq_true rfl, Nat.le_of_ble_eq_true rfl⟩ (pre_VW hO hP hD (wd_0 y ad cap I48 J) rfl) rfl hl.1 rfl (Nat.le_of_ble_eq_true rfl) dX8_label_51 ⟨(Nat.zero_le _), (Nat.zero_le _)⟩) hD hS hA (fun r51 u51 H locs hp51 hP hD hS => ?_)
        try dsimp only at hp51
        obtain ⟨er51, I51, rfl, hE51, hY51, hN51⟩ := hp51
        have hP : va_P D vwCl (Wd y ad cap I51 J) H := hP
        have hD : va_D A (Wd y ad cap I51 J) := hD
        refine W.iret (v := r51) hx hb hr (fun t ht hW => ⟨⟨_, (ad, cap, I51, J), rfl, ?_, by rw [ht]; exact hP, by show va_D (va_A (Wd y ad cap I J) s.heap.size) _; rw [hAe]; exact hD⟩, hS.F ht⟩) hS.2.2 dX8_label_54
        refine ⟨I51, rfl, EqX.tr2 hE48 hE51 (by decide) (by decide), fun hv => ?_, fun hv => ?_⟩
        · obtain ⟨g1, g2⟩ := hY48 hv
          exact ⟨er51.trans g1, RT1_0 g2 hE51, hY51 (by rw [g1]; exact nI_n1 (by omega))⟩
        · obtain ⟨g1, g2⟩ := hN48 hv
          exact ⟨er51.trans g1, (hN51 g1).trans g2⟩
      · skip
        refine lv_iconst (v := (-1)) hx hb dX8_label_36 (by decide) ?_
        refine W.iret (v := (-1)) hx hb hr (fun t ht hW => ⟨⟨_, (ad, cap, I, J), rfl, ?_, by rw [ht]; exact hP, by show va_D (va_A (Wd y ad cap I J) s.heap.size) _; rw [hAe]; exact hD⟩, hS.F ht⟩) hS.2.2 dX8_label_37
        refine ⟨I, rfl, EqX.rf, fun h9 => absurd h9 (fun h8 => ?_), fun _ => ⟨rfl, rfl⟩⟩
        obtain ⟨g1, g2, g3, g4⟩ := h8
        rw [s2] at g4
        first | exact g3 c17 | exact c33 (Int32.not_lt.mp g4)
  · skip
    have c11 := if01_z er8 c11
    refine lv_iconst (v := (-1)) hx hb dX8_label_14 (by decide) ?_
    refine W.iret (v := (-1)) hx hb hr (fun t ht hW => ⟨⟨_, (ad, cap, I, J), rfl, ?_, by rw [ht]; exact hP, by show va_D (va_A (Wd y ad cap I J) s.heap.size) _; rw [hAe]; exact hD⟩, hS.F ht⟩) hS.2.2 dX8_label_15
    exact ⟨I, rfl, EqX.rf, fun h9 => absurd h9.2.1 c11, fun _ => ⟨rfl, rfl⟩⟩
set_option maxHeartbeats 4000000 in
set_option maxRecDepth 100000 in
theorem c_X8_branch (l : Launch) (D : va_G) (y : Nat → ClassId) (ad : Nat → Nat) (cap : Nat → Nat) (I : Nat → Nat → Int32) (J : Nat → Nat → Int64) (sz : Nat) {T : Nat → Nat → Nat} (hT : RT1 I T) (hW : WF T) (p1 p2 p3 p4 : Int32) : Met l yX8_branch [.code yX8_branch cX8_branch 5 (some .int)] ({ frames := 2, cells := 0, slots := 0, locals := 42 }) (va_Pc [.ref (ad 0), .int p1, .int p2, .int p3, .int p4] (PW D y (Wd y ad cap I J) sz)) (va_Qi (fun (r : Int32) (u : St4) => ∃ I', u = (ad, cap, I', J) ∧ EqX [0, 12, 13, 14, 15, 16] I I' ∧ (braV T p1 p2 p3 p4 → r = nI (T 0 2) ∧ RT1 I' (addB T p1.toNatClampNeg p2.toNatClampNeg p3.toNatClampNeg p4.toNatClampNeg) ∧ I' 0 4 = 1) ∧ (¬ braV T p1 p2 p3 p4 → r = -1 ∧ I' = I)) (Aft D (Wt y) (Wd y ad cap I J) sz) (va_A (Wd y ad cap I J) sz)) 0 0 (va_A (Wd y ad cap I J) sz) := by
  refine Met.ofW (cc := cX8_branch) (maxL := 5) (ret := (some .int)) (by decide) rfl ?_
  intro p e s m args below meth c s₁ B hml hv
  obtain ⟨rfl, rfl, hP, hD0, hO⟩ := hv
  have hx := B.exec
  have hb := B.bytes
  have hr := B.returns
  have hown : s.vm.findClass RX8 = some m.cls := findClass_of_methodNamed B.named
  have hlocks := B.notSynchronized
  have hK := hO.1
  have hts : ∀ w ∈ lw_E, w.before ([.ref (ad 0), .int p1, .int p2, .int p3, .int p4] : List Value).toArray s = true := fun w h => hO.2 w h _
  clear B
  have hD := hD0.self (sz := s.heap.size)
  generalize hAe : va_A (Wd y ad cap I J) s.heap.size = A at hD ⊢
  have hA : ∀ q : Nat, s.heap.size ≤ q → A q := fun q h => by rw [← hAe]; exact Or.inr h
  have hS : va_S A s.heap s.heap [] := va_S.rf
  have hl := lv_entry ([.ref (ad 0), .int p1, .int p2, .int p3, .int p4]) (n := 5) (Nat.le_of_ble_eq_true rfl)
  rw [lg_entry_eq]
  generalize (lg_sl ([.ref (ad 0), .int p1, .int p2, .int p3, .int p4]) ++ List.replicate (5 - (lg_sl ([.ref (ad 0), .int p1, .int p2, .int p3, .int p4])).length) Slot.unset).toArray = ls at hl ⊢
  have hl : lv_has ls 5 [(0, .ref (ad 0)), (1, .int p1), (2, .int p2), (3, .int p3), (4, .int p4)] := hl
  have hW0 := hW
  obtain ⟨⟨w1, w2, w3, w4, w5, w6, w7⟩, wS, wL, wB, wK, wTk, wT0⟩ := hW
  refine lv_aload_n hx hb dX8_branch_0 rfl (lv_at hl 0 rfl) ?_
  refine va_get (D := D) (T := TX8) (N := 5) hx hb hts jnX8 hown hK hP 0 (wd_0 y ad cap I J) rfl 0 (by decide) (hts _ fl_X8_12) (fun _ h9 => h9) rfl dX8_branch_1 ?_
  refine va_getN (D := D) (T := TX7) (N := 8) hx hb hts jnX7 hown hK hP 1 (wd_1 y ad cap I J) rfl 0 (by decide) (hts _ fn_X8_38) (fun _ h9 => h9) rfl dX8_branch_4 ?_
  refine lv_iload_n hx hb dX8_branch_7 rfl (lv_at hl 1 rfl) ?_
  refine rk_i (run_vn (As := [.int p1]) (rest := []) (b := (ad 2)) hx hb hml hown hO.2 (c_X5_has l D y (wd_2 y ad cap I J) p1) k_X5_has mn_X8_52 ⟨rfl, rfl⟩ ⟨Nat.le_of_ble_eq_true rfl, Nat.le_of_ble_eq_true rfl⟩ (pre_VR hO hP (wd_2 y ad cap I J) rfl) rfl hl.1 rfl (Nat.le_of_ble_eq_true rfl) dX8_branch_8 ⟨(Nat.zero_le _), (Nat.zero_le _)⟩) (fun r8 er8 => ?_)
  try dsimp only at er8
  rw [hT.1.1] at er8
  refine lv_if_eq (tgt := 43) hx hb dX8_branch_11 (by decide) (fun c11 => ?_) (fun c11 => ?_)
  · skip
    have c11 := if01_z er8 c11
    refine lv_iconst (v := (-1)) hx hb dX8_branch_43 (by decide) ?_
    refine W.iret (v := (-1)) hx hb hr (fun t ht hW => ⟨⟨_, (ad, cap, I, J), rfl, ?_, by rw [ht]; exact hP, by show va_D (va_A (Wd y ad cap I J) s.heap.size) _; rw [hAe]; exact hD⟩, hS.F ht⟩) hS.2.2 dX8_branch_44
    refine ⟨I, rfl, EqX.rf, fun h9 => absurd h9 (fun h8 => ?_), fun _ => ⟨rfl, rfl⟩⟩
    obtain ⟨g1, g2, g3, g4, g5⟩ := h8
    first | exact c11 g2 | exact c25 ((kh_iff hT hW0).mpr g4) | exact c40 g5
  · skip
    have c11 := if01_n er8 c11
    refine lv_aload_n hx hb dX8_branch_14 rfl (lv_at hl 0 rfl) ?_
    refine va_get (D := D) (T := TX8) (N := 5) hx hb hts jnX8 hown hK hP 0 (wd_0 y ad cap I J) rfl 0 (by decide) (hts _ fl_X8_12) (fun _ h9 => h9) rfl dX8_branch_15 ?_
    refine va_getN (D := D) (T := TX7) (N := 8) hx hb hts jnX7 hown hK hP 1 (wd_1 y ad cap I J) rfl 2 (by decide) (hts _ fn_X8_68) (fun _ h9 => h9) rfl dX8_branch_18 ?_
    refine lv_iload_n hx hb dX8_branch_21 rfl (lv_at hl 3 rfl) ?_
    refine rk_i (run_vn (As := [.int p3]) (rest := []) (b := (ad 9)) hx hb hml hown hO.2 (c_X2_has l D y (wd_9 y ad cap I J) (wd_11 y ad cap I J) p3) k_X2_has mn_X8_82 ⟨rfl, rfl⟩ ⟨Nat.le_of_ble_eq_true rfl, Nat.le_of_ble_eq_true rfl⟩ (pre_VR hO hP (wd_9 y ad cap I J) rfl) rfl hl.1 rfl (Nat.le_of_ble_eq_true rfl) dX8_branch_22 ⟨(Nat.zero_le _), (Nat.zero_le _)⟩) (fun r22 er22 => ?_)
    try dsimp only at er22
    refine lv_if_eq (tgt := 43) hx hb dX8_branch_25 (by decide) (fun c25 => ?_) (fun c25 => ?_)
    · skip
      have c25 := if01_z er22 c25
      refine lv_iconst (v := (-1)) hx hb dX8_branch_43 (by decide) ?_
      refine W.iret (v := (-1)) hx hb hr (fun t ht hW => ⟨⟨_, (ad, cap, I, J), rfl, ?_, by rw [ht]; exact hP, by show va_D (va_A (Wd y ad cap I J) s.heap.size) _; rw [hAe]; exact hD⟩, hS.F ht⟩) hS.2.2 dX8_branch_44
      refine ⟨I, rfl, EqX.rf, fun h9 => absurd h9 (fun h8 => ?_), fun _ => ⟨rfl, rfl⟩⟩
      obtain ⟨g1, g2, g3, g4, g5⟩ := h8
      first | exact c11 g2 | exact c25 ((kh_iff hT hW0).mpr g4) | exact c40 g5
    · skip
      have c25 := if01_n er22 c25
      refine lv_aload_n hx hb dX8_branch_28 rfl (lv_at hl 0 rfl) ?_
      refine va_get (D := D) (T := TX8) (N := 5) hx hb hts jnX8 hown hK hP 0 (wd_0 y ad cap I J) rfl 0 (by decide) (hts _ fl_X8_12) (fun _ h9 => h9) rfl dX8_branch_29 ?_
      refine va_getN (D := D) (T := TX7) (N := 8) hx hb hts jnX7 hown hK hP 1 (wd_1 y ad cap I J) rfl 1 (by decide) (hts _ fn_X8_59) (fun _ h9 => h9) rfl dX8_branch_32 ?_
      refine lv_iload hx hb dX8_branch_35 (lv_at hl 4 rfl) ?_
      refine rk_i (run_vn (As := [.int p4]) (rest := []) (b := (ad 6)) hx hb hml hown hO.2 (c_X3_has l D y (wd_6 y ad cap I J) p4) k_X3_has mn_X8_83 ⟨rfl, rfl⟩ ⟨Nat.le_of_ble_eq_true rfl, Nat.le_of_ble_eq_true rfl⟩ (pre_VR hO hP (wd_6 y ad cap I J) rfl) rfl hl.1 rfl (Nat.le_of_ble_eq_true rfl) dX8_branch_37 ⟨(Nat.zero_le _), (Nat.zero_le _)⟩) (fun r37 er37 => ?_)
      try dsimp only at er37
      rw [hT.1.2.1] at er37
      refine lv_if_ne (tgt := 45) hx hb dX8_branch_40 (by decide) (fun c40 => ?_) (fun c40 => ?_)
      · skip
        have c40 := if01_n er37 c40
        have c25 := (kh_iff hT hW0).mp c25
        obtain ⟨s0, s1, hs0⟩ := ix_ok (n := T 0 0) (by omega) c11
        have s2 : p1.toNatClampNeg = s0 := by rw [s1]; exact nI_clamp (by omega)
        obtain ⟨k0, k1, hk0⟩ := ix_ok (n := 8) (by omega) c25.1
        have k2 : p3.toNatClampNeg = k0 := by rw [k1]; exact nI_clamp (by omega)
        obtain ⟨t0, t1, ht0⟩ := ix_ok (n := T 0 1) (by omega) c40
        have t2 : p4.toNatClampNeg = t0 := by rw [t1]; exact nI_clamp (by omega)
        clear er8 er22 er37
        subst s1
        subst k1
        subst t1
        refine lv_iload_n hx hb dX8_branch_45 rfl (lv_at hl 2 rfl) ?_
        refine lv_if_lt (tgt := 65) hx hb dX8_branch_46 (by decide) (fun c46 => ?_) (fun c46 => ?_)
        · skip
          refine lv_iconst (v := (-1)) hx hb dX8_branch_65 (by decide) ?_
          refine W.iret (v := (-1)) hx hb hr (fun t ht hW => ⟨⟨_, (ad, cap, I, J), rfl, ?_, by rw [ht]; exact hP, by show va_D (va_A (Wd y ad cap I J) s.heap.size) _; rw [hAe]; exact hD⟩, hS.F ht⟩) hS.2.2 dX8_branch_66
          refine ⟨I, rfl, EqX.rf, fun h9 => absurd h9 (fun h8 => ?_), fun _ => ⟨rfl, rfl⟩⟩
          obtain ⟨g1, g2, g3, g4, g5⟩ := h8
          rw [s2] at g3
          first | exact g3.1 c46 | exact c62 g3.2
        · skip
          refine lv_iload_n hx hb dX8_branch_49 rfl (lv_at hl 2 rfl) ?_
          refine lv_aload_n hx hb dX8_branch_50 rfl (lv_at hl 0 rfl) ?_
          refine va_get (D := D) (T := TX8) (N := 5) hx hb hts jnX8 hown hK hP 0 (wd_0 y ad cap I J) rfl 0 (by decide) (hts _ fl_X8_12) (fun _ h9 => h9) rfl dX8_branch_51 ?_
          refine va_getN (D := D) (T := TX7) (N := 8) hx hb hts jnX7 hown hK hP 1 (wd_1 y ad cap I J) rfl 0 (by decide) (hts _ fn_X8_38) (fun _ h9 => h9) rfl dX8_branch_54 ?_
          refine va_getN (D := D) (T := TX5) (N := 5) hx hb hts jnX5 hown hK hP 2 (wd_2 y ad cap I J) rfl 2 (by decide) (hts _ fn_X8_56) (fun _ h9 => h9) rfl dX8_branch_57 ?_
          refine lv_iload_n hx hb dX8_branch_60 rfl (lv_at hl 1 rfl) ?_
          refine va_iald (D := D) hx hb hK hP 3 0 (wd_3 y ad cap I J) rfl (vp_in_nI (by omega) (by omega)) dX8_branch_61 ?_
          rw [nI_clamp (n := s0) (by omega)]
          refine lv_topi (fun v61 ev61 => ?_)
          obtain rfl : v61 = (nI (T 1 s0)) := by
            rw [ev61]; exact (hT.2.1 _ (by omega)).1
          refine lv_icmp_lt (tgt := 67) hx hb dX8_branch_62 (by decide) (fun c62 => ?_) (fun c62 => ?_)
          · skip
            obtain ⟨g5, g6, g7⟩ := wS s0 hs0
            have hc : ¬ p2 < 0 ∧ p2 < nI (T 1 s0) := ⟨c46, c62⟩
            obtain ⟨f1, hf0⟩ := inR_nat (v := p2) (hi := nI (T 1 s0)) (n := T 1 s0) (nI_toInt (by omega)) ⟨c46, fun h9 => by rw [Int32.lt_iff_toInt_lt] at *; omega⟩
            have hvv : T 0 2 < 200 ↔ braV T (nI s0) p2 (nI k0) (nI t0) := ⟨fun h9 => ⟨h9, c11, by rw [s2]; exact hc, c25, c40⟩, fun h9 => h9.1⟩
            try rw [s2]
            rw [k2, t2]
            generalize p2.toNatClampNeg = f0 at f1 hf0 ⊢
            clear c46 c62
            subst f1
            refine lv_aload_n hx hb dX8_branch_67 rfl (lv_at hl 0 rfl) ?_
            refine lv_aload_n hx hb dX8_branch_68 rfl (lv_at hl 0 rfl) ?_
            refine va_get (D := D) (T := TX8) (N := 5) hx hb hts jnX8 hown hK hP 0 (wd_0 y ad cap I J) rfl 0 (by decide) (hts _ fl_X8_12) (fun _ h9 => h9) rfl dX8_branch_69 ?_
            refine va_getN (D := D) (T := TX7) (N := 8) hx hb hts jnX7 hown hK hP 1 (wd_1 y ad cap I J) rfl 3 (by decide) (hts _ fn_X8_84) (fun _ h9 => h9) rfl dX8_branch_72 ?_
            refine lv_iload_n hx hb dX8_branch_75 rfl (lv_at hl 1 rfl) ?_
            refine lv_iload_n hx hb dX8_branch_76 rfl (lv_at hl 2 rfl) ?_
            refine lv_iload_n hx hb dX8_branch_77 rfl (lv_at hl 3 rfl) ?_
            refine lv_iload hx hb dX8_branch_78 (lv_at hl 4 rfl) ?_
            refine wk_i (Wf := Wt y) (run_vn (As := [.int (nI s0), .int (nI f0), .int (nI k0), .int (nI t0)]) (rest := [.ref (ad 0)]) (b := (ad 12)) hx hb hml hown hO.2 (c_X1_append l D y ad cap I J s.heap.size hT hW0 s0 f0 k0 t0) k_X1_append mn_X8_88 ⟨rfl, rfl⟩ ⟨Nat.le_of_ble_eq_true rfl, Nat.le_of_ble_eq_true rfl⟩ (pre_VW hO hP hD (wd_12 y ad cap I J) rfl) rfl hl.1 rfl (Nat.le_of_ble_eq_true rfl) dX8_branch_80 ⟨(Nat.zero_le _), (Nat.zero_le _)⟩) hD hS hA (fun r80 u80 H locs hp80 hP hD hS => ?_)
            try dsimp only at hp80
            rw [hvv] at hp80
            obtain ⟨I80, rfl, hE80, hY80, hN80⟩ := hp80
            have hP : va_P D vwCl (Wd y ad cap I80 J) H := hP
            have hD : va_D A (Wd y ad cap I80 J) := hD
            refine wk_i (Wf := Wt y) (run_v (As := [.int r80]) (rest := []) (b := (ad 0)) hx hb hml hown hO.2 (c_X8_notedNumber l D y ad cap I80 J H.size r80) k_X8_notedNumber ml_X8_48 ⟨rfl, rfl⟩ ⟨Nat.le_of_ble_eq_true rfl, Nat.le_of_ble_eq_true rfl⟩ (pre_VW hO hP hD (wd_0 y ad cap I80 J) rfl) rfl hl.1 rfl (Nat.le_of_ble_eq_true rfl) dX8_branch_83 ⟨(Nat.zero_le _), (Nat.zero_le _)⟩) hD hS hA (fun r83 u83 H locs hp83 hP hD hS => ?_)
            try dsimp only at hp83
            obtain ⟨er83, I83, rfl, hE83, hY83, hN83⟩ := hp83
            have hP : va_P D vwCl (Wd y ad cap I83 J) H := hP
            have hD : va_D A (Wd y ad cap I83 J) := hD
            refine W.iret (v := r83) hx hb hr (fun t ht hW => ⟨⟨_, (ad, cap, I83, J), rfl, ?_, by rw [ht]; exact hP, by show va_D (va_A (Wd y ad cap I J) s.heap.size) _; rw [hAe]; exact hD⟩, hS.F ht⟩) hS.2.2 dX8_branch_86
            refine ⟨I83, rfl, EqX.tr2 hE80 hE83 (by decide) (by decide), fun hv => ?_, fun hv => ?_⟩
            · obtain ⟨g1, g2⟩ := hY80 hv
              exact ⟨er83.trans g1, RT1_0 g2 hE83, hY83 (by rw [g1]; exact nI_n1 (by omega))⟩
            · obtain ⟨g1, g2⟩ := hN80 hv
              exact ⟨er83.trans g1, (hN83 g1).trans g2⟩
          · skip
            refine lv_iconst (v := (-1)) hx hb dX8_branch_65 (by decide) ?_
            refine W.iret (v := (-1)) hx hb hr (fun t ht hW => ⟨⟨_, (ad, cap, I, J), rfl, ?_, by rw [ht]; exact hP, by show va_D (va_A (Wd y ad cap I J) s.heap.size) _; rw [hAe]; exact hD⟩, hS.F ht⟩) hS.2.2 dX8_branch_66
            refine ⟨I, rfl, EqX.rf, fun h9 => absurd h9 (fun h8 => ?_), fun _ => ⟨rfl, rfl⟩⟩
            obtain ⟨g1, g2, g3, g4, g5⟩ := h8
            rw [s2] at g3
            first | exact g3.1 c46 | exact c62 g3.2
      · skip
        have c40 := if01_z er37 c40
        refine lv_iconst (v := (-1)) hx hb dX8_branch_43 (by decide) ?_
        refine W.iret (v := (-1)) hx hb hr (fun t ht hW => ⟨⟨_, (ad, cap, I, J), rfl, ?_, by rw [ht]; exact hP, by show va_D (va_A (Wd y ad cap I J) s.heap.size) _; rw [hAe]; exact hD⟩, hS.F ht⟩) hS.2.2 dX8_branch_44
        refine ⟨I, rfl, EqX.rf, fun h9 => absurd h9 (fun h8 => ?_), fun _ => ⟨rfl, rfl⟩⟩
        obtain ⟨g1, g2, g3, g4, g5⟩ := h8
        first | exact c11 g2 | exact c25 ((kh_iff hT hW0).mpr g4) | exact c40 g5
set_option maxHeartbeats 4000000 in
set_option maxRecDepth 100000 in
theorem c_X8_retarget (l : Launch) (D : va_G) (y : Nat → ClassId) (ad : Nat → Nat) (cap : Nat → Nat) (I : Nat → Nat → Int32) (J : Nat → Nat → Int64) (sz : Nat) {T : Nat → Nat → Nat} (hT : RT1 I T) (hW : WF T) (p1 p2 : Int32) : Met l yX8_retarget [.code yX8_retarget cX8_retarget 3 (some .boolean)] ({ frames := 1, cells := 0, slots := 0, locals := 21 }) (va_Pc [.ref (ad 0), .int p1, .int p2] (PW D y (Wd y ad cap I J) sz)) (va_Qi (fun (r : Int32) (u : St4) => ∃ I', u = (ad, cap, I', J) ∧ EqX [0, 16] I I' ∧ (rtgV T p1 p2 → r = 1 ∧ RT1 I' (setB T p1.toNatClampNeg p2.toNatClampNeg) ∧ I' 0 4 = 1) ∧ (¬ rtgV T p1 p2 → r = 0 ∧ I' = I)) (Aft D (Wt y) (Wd y ad cap I J) sz) (va_A (Wd y ad cap I J) sz)) 0 0 (va_A (Wd y ad cap I J) sz) := by
  refine Met.ofW (cc := cX8_retarget) (maxL := 3) (ret := (some .boolean)) (by decide) rfl ?_
  intro p e s m args below meth c s₁ B hml hv
  obtain ⟨rfl, rfl, hP, hD0, hO⟩ := hv
  have hx := B.exec
  have hb := B.bytes
  have hr := B.returns
  have hown : s.vm.findClass RX8 = some m.cls := findClass_of_methodNamed B.named
  have hlocks := B.notSynchronized
  have hK := hO.1
  have hts : ∀ w ∈ lw_E, w.before ([.ref (ad 0), .int p1, .int p2] : List Value).toArray s = true := fun w h => hO.2 w h _
  clear B
  have hD := hD0.self (sz := s.heap.size)
  generalize hAe : va_A (Wd y ad cap I J) s.heap.size = A at hD ⊢
  have hA : ∀ q : Nat, s.heap.size ≤ q → A q := fun q h => by rw [← hAe]; exact Or.inr h
  have hS : va_S A s.heap s.heap [] := va_S.rf
  have hl := lv_entry ([.ref (ad 0), .int p1, .int p2]) (n := 3) (Nat.le_of_ble_eq_true rfl)
  rw [lg_entry_eq]
  generalize (lg_sl ([.ref (ad 0), .int p1, .int p2]) ++ List.replicate (3 - (lg_sl ([.ref (ad 0), .int p1, .int p2])).length) Slot.unset).toArray = ls at hl ⊢
  have hl : lv_has ls 3 [(0, .ref (ad 0)), (1, .int p1), (2, .int p2)] := hl
  have hW0 := hW
  obtain ⟨⟨w1, w2, w3, w4, w5, w6, w7⟩, wS, wL, wB, wK, wTk, wT0⟩ := hW
  refine lv_aload_n hx hb dX8_retarget_0 rfl (lv_at hl 0 rfl) ?_
  refine va_get (D := D) (T := TX8) (N := 5) hx hb hts jnX8 hown hK hP 0 (wd_0 y ad cap I J) rfl 0 (by decide) (hts _ fl_X8_12) (fun _ h9 => h9) rfl dX8_retarget_1 ?_
  refine va_getN (D := D) (T := TX7) (N := 8) hx hb hts jnX7 hown hK hP 1 (wd_1 y ad cap I J) rfl 3 (by decide) (hts _ fn_X8_84) (fun _ h9 => h9) rfl dX8_retarget_4 ?_
  refine lv_iload_n hx hb dX8_retarget_7 rfl (lv_at hl 1 rfl) ?_
  refine rk_i (run_vn (As := [.int p1]) (rest := []) (b := (ad 12)) hx hb hml hown hO.2 (c_X1_has l D y (wd_12 y ad cap I J) p1) k_X1_has mn_X8_104 ⟨rfl, rfl⟩ ⟨Nat.le_of_ble_eq_true rfl, Nat.le_of_ble_eq_true rfl⟩ (pre_VR hO hP (wd_12 y ad cap I J) rfl) rfl hl.1 rfl (Nat.le_of_ble_eq_true rfl) dX8_retarget_8 ⟨(Nat.zero_le _), (Nat.zero_le _)⟩) (fun r8 er8 => ?_)
  try dsimp only at er8
  rw [hT.1.2.2.1] at er8
  refine lv_if_eq (tgt := 28) hx hb dX8_retarget_11 (by decide) (fun c11 => ?_) (fun c11 => ?_)
  · skip
    have c11 := if01_z er8 c11
    refine lv_iconst (v := 0) hx hb dX8_retarget_28 (by decide) ?_
    refine W.zret (v := 0) hx hb hr (by decide) (fun t ht hW => ⟨⟨_, (ad, cap, I, J), rfl, ?_, by rw [ht]; exact hP, by show va_D (va_A (Wd y ad cap I J) s.heap.size) _; rw [hAe]; exact hD⟩, hS.F ht⟩) hS.2.2 dX8_retarget_29
    refine ⟨I, rfl, EqX.rf, fun h9 => absurd h9 (fun h8 => ?_), fun _ => ⟨rfl, rfl⟩⟩
    obtain ⟨g1, g2⟩ := h8
    first | exact c11 g1 | exact c25 g2
  · skip
    have c11 := if01_n er8 c11
    refine lv_aload_n hx hb dX8_retarget_14 rfl (lv_at hl 0 rfl) ?_
    refine va_get (D := D) (T := TX8) (N := 5) hx hb hts jnX8 hown hK hP 0 (wd_0 y ad cap I J) rfl 0 (by decide) (hts _ fl_X8_12) (fun _ h9 => h9) rfl dX8_retarget_15 ?_
    refine va_getN (D := D) (T := TX7) (N := 8) hx hb hts jnX7 hown hK hP 1 (wd_1 y ad cap I J) rfl 1 (by decide) (hts _ fn_X8_59) (fun _ h9 => h9) rfl dX8_retarget_18 ?_
    refine lv_iload_n hx hb dX8_retarget_21 rfl (lv_at hl 2 rfl) ?_
    refine rk_i (run_vn (As := [.int p2]) (rest := []) (b := (ad 6)) hx hb hml hown hO.2 (c_X3_has l D y (wd_6 y ad cap I J) p2) k_X3_has mn_X8_83 ⟨rfl, rfl⟩ ⟨Nat.le_of_ble_eq_true rfl, Nat.le_of_ble_eq_true rfl⟩ (pre_VR hO hP (wd_6 y ad cap I J) rfl) rfl hl.1 rfl (Nat.le_of_ble_eq_true rfl) dX8_retarget_22 ⟨(Nat.zero_le _), (Nat.zero_le _)⟩) (fun r22 er22 => ?_)
    try dsimp only at er22
    rw [hT.1.2.1] at er22
    refine lv_if_ne (tgt := 30) hx hb dX8_retarget_25 (by decide) (fun c25 => ?_) (fun c25 => ?_)
    · skip
      have c25 := if01_n er22 c25
      have hV : rtgV T p1 p2 := ⟨c11, c25⟩
      obtain ⟨b0, b1, hb0⟩ := ix_ok (n := T 0 2) (by omega) c11
      have b2 : p1.toNatClampNeg = b0 := by rw [b1]; exact nI_clamp (by omega)
      obtain ⟨t0, t1, ht0⟩ := ix_ok (n := T 0 1) (by omega) c25
      have t2 : p2.toNatClampNeg = t0 := by rw [t1]; exact nI_clamp (by omega)
      clear er8 er22
      rw [b2, t2]
      subst b1
      subst t1
      refine lv_aload_n hx hb dX8_retarget_30 rfl (lv_at hl 0 rfl) ?_
      refine va_get (D := D) (T := TX8) (N := 5) hx hb hts jnX8 hown hK hP 0 (wd_0 y ad cap I J) rfl 0 (by decide) (hts _ fl_X8_12) (fun _ h9 => h9) rfl dX8_retarget_31 ?_
      refine va_getN (D := D) (T := TX7) (N := 8) hx hb hts jnX7 hown hK hP 1 (wd_1 y ad cap I J) rfl 3 (by decide) (hts _ fn_X8_84) (fun _ h9 => h9) rfl dX8_retarget_34 ?_
      refine va_getN (D := D) (T := TX1) (N := 5) hx hb hts jnX1 hown hK hP 12 (wd_12 y ad cap I J) rfl 4 (by decide) (hts _ fn_X8_105) (fun _ h9 => h9) rfl dX8_retarget_37 ?_
      refine lv_iload_n hx hb dX8_retarget_40 rfl (lv_at hl 1 rfl) ?_
      refine lv_iload_n hx hb dX8_retarget_41 rfl (lv_at hl 2 rfl) ?_
      refine va_iast (D := D) hx hb hK hP hD hS 16 0 (wd_16 y ad cap I J) rfl (vp_in_nI (by omega) (by omega)) dX8_retarget_42 (fun H locs hP hD hS => ?_)
      rw [nI_clamp (n := b0) (by omega)] at hP hD
      rw [ws_16] at hP hD
      generalize eI42 : va_up I 16 (upd (I 16) b0 (nI t0)) = I42 at hP hD
      refine lv_aload_n hx hb dX8_retarget_43 rfl (lv_at hl 0 rfl) ?_
      refine lv_iconst (v := 1) hx hb dX8_retarget_44 (by decide) ?_
      refine wk_i (Wf := Wt y) (run_v (As := [.int 1]) (rest := []) (b := (ad 0)) hx hb hml hown hO.2 (c_X8_noted l D y ad cap I42 J H.size (q0 := 1) (by decide)) k_X8_noted ml_X8_78 ⟨rfl, rfl⟩ ⟨Nat.le_of_ble_eq_true rfl, Nat.le_of_ble_eq_true rfl⟩ (pre_VW hO hP hD (wd_0 y ad cap I42 J) rfl) rfl hl.1 rfl (Nat.le_of_ble_eq_true rfl) dX8_retarget_45 ⟨(Nat.zero_le _), (Nat.zero_le _)⟩) hD hS hA (fun r45 u45 H locs hp45 hP hD hS => ?_)
      try dsimp only at hp45
      obtain ⟨er45, I45, rfl, hE45, hY45, hN45⟩ := hp45
      have hP : va_P D vwCl (Wd y ad cap I45 J) H := hP
      have hD : va_D A (Wd y ad cap I45 J) := hD
      refine W.zret (v := r45) hx hb hr (by rw [er45]; decide) (fun t ht hW => ⟨⟨_, (ad, cap, I45, J), rfl, ?_, by rw [ht]; exact hP, by show va_D (va_A (Wd y ad cap I J) s.heap.size) _; rw [hAe]; exact hD⟩, hS.F ht⟩) hS.2.2 dX8_retarget_48
      refine ⟨I45, rfl, EqX.tr2 (S1 := [16]) ?_ hE45 (by decide) (by decide), fun _ => ⟨er45, RT1_0 (RT1_setB (b := b0) (t := t0) hT eI42.symm) hE45, hY45 rfl⟩, fun h9 => absurd hV h9⟩
      subst_vars
      refine EqX.up (EqX.rf) ?_ <;> decide
    · skip
      have c25 := if01_z er22 c25
      refine lv_iconst (v := 0) hx hb dX8_retarget_28 (by decide) ?_
      refine W.zret (v := 0) hx hb hr (by decide) (fun t ht hW => ⟨⟨_, (ad, cap, I, J), rfl, ?_, by rw [ht]; exact hP, by show va_D (va_A (Wd y ad cap I J) s.heap.size) _; rw [hAe]; exact hD⟩, hS.F ht⟩) hS.2.2 dX8_retarget_29
      refine ⟨I, rfl, EqX.rf, fun h9 => absurd h9 (fun h8 => ?_), fun _ => ⟨rfl, rfl⟩⟩
      obtain ⟨g1, g2⟩ := h8
      first | exact c11 g1 | exact c25 g2
