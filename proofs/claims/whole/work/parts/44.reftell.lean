theorem pred_lt {n : Nat} (hn : n < 2 ^ 30) {p v : Int32} (ev : v = nI n - 1) : v < p ↔ nI n ≤ p := by
  rw [ev, Int32.lt_iff_toInt_lt, Int32.le_iff_toInt_le, nI_toInt (by omega)]
  have h : (nI n - 1).toInt = (n : Int) - 1 := by
    rw [show (1 : Int32) = nI 1 from rfl, pk_sub_toInt (by omega) (by omega)]
    omega
  rw [h]
  omega
theorem in_pred {n : Nat} (hn : n < 2 ^ 30) {p v : Int32} (ev : v = nI n - 1) : (¬ p < 0 ∧ ¬ v < p) ↔ (¬ p < 0 ∧ ¬ nI n ≤ p) := by
  rw [pred_lt hn ev]
theorem in7 {p : Int32} : (¬ p < 0 ∧ ¬ 7 < p) ↔ (¬ p < 0 ∧ ¬ 8 ≤ p) := by
  rw [Int32.lt_iff_toInt_lt (x := 7), Int32.le_iff_toInt_le]
  have h7 : (7 : Int32).toInt = 7 := rfl
  have h8 : (8 : Int32).toInt = 8 := rfl
  rw [h7, h8]
  constructor
  · rintro ⟨h1, h2⟩
    exact ⟨h1, by omega⟩
  · rintro ⟨h1, h2⟩
    exact ⟨h1, by omega⟩
theorem stpN_z {T : Nat → Nat → Nat} {k : Nat} : stpN T k = 0 ↔ T 11 k = 0 := by
  unfold stpN
  have := Nat.two_pow_pos (T 10 k)
  split
  · simp [*]
  · constructor
    · intro h; omega
    · intro h; contradiction
theorem stpN_le {T : Nat → Nat → Nat} (hW : WF T) {k : Nat} (hk : k < 8) : stpN T k ≤ 8 := by
  unfold stpN
  have := Nat.pow_le_pow_right (show 0 < 2 by omega) (hW.2.2.2.2.1 k hk).1
  split <;> omega
theorem pw_eq {p : Int32} (h : p = 1 ∨ p = 2 ∨ p = 4 ∨ p = 8) : p = nI (2 ^ pw p) := by
  rcases h with rfl | rfl | rfl | rfl <;> decide
set_option maxHeartbeats 4000000 in
set_option maxRecDepth 100000 in
theorem c_X9_label (l : Launch) (D : va_G) (y : Nat → ClassId) (ad : Nat → Nat) (cap : Nat → Nat) (I : Nat → Nat → Int32) (J : Nat → Nat → Int64) (sz : Nat) {T : Nat → Nat → Nat} (hM : RM I T) (hW : WF T) (p1 p2 : Int32) : Met l yX9_label [.code yX9_label cX9_label 3 (some .int)] ({ frames := 1, cells := 0, slots := 0, locals := 22 }) (va_Pc [.ref (ad 55), .int p1, .int p2] (PW D y (Wd y ad cap I J) sz)) (va_Qi (fun (r : Int32) (u : St4) => ∃ I', u = (ad, cap, I', J) ∧ (labV T p1 p2 → r = nI (T 0 1) ∧ RM I' (addL T p1.toNatClampNeg p2.toNatClampNeg) ∧ EqX [55, 59, 60] I I' ∧ EqF I I' ∧ I' 55 19 = 1) ∧ (¬ labV T p1 p2 → r = -1 ∧ I' = I)) (Aft D (Wt y) (Wd y ad cap I J) sz) (va_A (Wd y ad cap I J) sz)) 0 0 (va_A (Wd y ad cap I J) sz) := by
  refine Met.ofW (cc := cX9_label) (maxL := 3) (ret := (some .int)) (by decide) rfl ?_
  intro p e s m args below meth c s₁ B hml hv
  obtain ⟨rfl, rfl, hP, hD0, hO⟩ := hv
  have hx := B.exec
  have hb := B.bytes
  have hr := B.returns
  have hown : s.vm.findClass RX9 = some m.cls := findClass_of_methodNamed B.named
  have hlocks := B.notSynchronized
  have hK := hO.1
  have hts : ∀ w ∈ lw_E, w.before ([.ref (ad 55), .int p1, .int p2] : List Value).toArray s = true := fun w h => hO.2 w h _
  clear B
  have hD := hD0.self (sz := s.heap.size)
  generalize hAe : va_A (Wd y ad cap I J) s.heap.size = A at hD ⊢
  have hA : ∀ q : Nat, s.heap.size ≤ q → A q := fun q h => by rw [← hAe]; exact Or.inr h
  have hS : va_S A s.heap s.heap [] := va_S.rf
  have hl := lv_entry ([.ref (ad 55), .int p1, .int p2]) (n := 3) (Nat.le_of_ble_eq_true rfl)
  rw [lg_entry_eq]
  generalize (lg_sl ([.ref (ad 55), .int p1, .int p2]) ++ List.replicate (3 - (lg_sl ([.ref (ad 55), .int p1, .int p2])).length) Slot.unset).toArray = ls at hl ⊢
  have hl : lv_has ls 3 [(0, .ref (ad 55)), (1, .int p1), (2, .int p2)] := hl
  have hW0 := hW
  obtain ⟨⟨w1, w2, w3, w4, w5, w6, w7⟩, wS, wL, wB, wK, wTk, wT0⟩ := hW
  refine lv_aload_n hx hb dX9_label_0 rfl (lv_at hl 0 rfl) ?_
  refine va_get (D := D) (T := TX9) (N := 51) hx hb hts jnX9 hown hK hP 55 (wd_55 y ad cap I J) rfl 1 (by decide) (hts _ fl_X9_121) (fun _ h9 => h9) rfl dX9_label_1 ?_
  refine lv_topi (fun v1 ev1 => ?_)
  obtain rfl : v1 = (nI (T 0 1)) := by
    rw [ev1]; exact hM.1.2.1
  refine lv_bipush (v := 60) hx hb dX9_label_4 (by decide) ?_
  refine lv_icmp_eq (tgt := 37) hx hb dX9_label_6 (by decide) (fun c6 => ?_) (fun c6 => ?_)
  · skip
    have c6 := (nI_eq (a := (T 0 1)) (b := 60) (by omega) (by omega)).mp c6
    refine lv_iconst (v := (-1)) hx hb dX9_label_37 (by decide) ?_
    refine W.iret (v := (-1)) hx hb hr (fun t ht hW => ⟨⟨_, (ad, cap, I, J), rfl, ?_, by rw [ht]; exact hP, by show va_D (va_A (Wd y ad cap I J) s.heap.size) _; rw [hAe]; exact hD⟩, hS.F ht⟩) hS.2.2 dX9_label_38
    refine ⟨I, rfl, fun h9 => absurd h9 (fun h8 => ?_), fun _ => ⟨rfl, rfl⟩⟩
    obtain ⟨g1, g2, g3⟩ := h8
    first | omega | exact c20 g2 | exact c34 (by rw [s02] at g3; exact g3)
  · skip
    have c6 := mt (nI_eq (a := (T 0 1)) (b := 60) (by omega) (by omega)).mpr c6
    refine lv_iload_n hx hb dX9_label_9 rfl (lv_at hl 1 rfl) ?_
    refine lv_iconst (v := 0) hx hb dX9_label_10 (by decide) ?_
    refine lv_aload_n hx hb dX9_label_11 rfl (lv_at hl 0 rfl) ?_
    refine va_get (D := D) (T := TX9) (N := 51) hx hb hts jnX9 hown hK hP 55 (wd_55 y ad cap I J) rfl 0 (by decide) (hts _ fl_X9_105) (fun _ h9 => h9) rfl dX9_label_12 ?_
    refine lv_topi (fun v12 ev12 => ?_)
    obtain rfl : v12 = (nI (T 0 0)) := by
      rw [ev12]; exact hM.1.1
    refine lv_iconst (v := 1) hx hb dX9_label_15 (by decide) ?_
    refine lv_isub hx hb dX9_label_16 ?_
    refine lv_topi (fun v16 ev16 => ?_)
    refine rk_i (run_s (As := [.int p1, .int 0, .int v16]) (rest := []) hx hb hml hown hO.2 (c_X9_in l D y p1 0 v16) k_X9_in ml_X9_110 ⟨rfl, rfl⟩ ⟨Nat.le_of_ble_eq_true rfl, Nat.le_of_ble_eq_true rfl⟩ (pre_SR hO hP) rfl hl.1 rfl (Nat.le_of_ble_eq_true rfl) dX9_label_17 ⟨(Nat.zero_le _), (Nat.zero_le _)⟩) (fun r17 er17 => ?_)
    try dsimp only at er17
    refine lv_if_eq (tgt := 37) hx hb dX9_label_20 (by decide) (fun c20 => ?_) (fun c20 => ?_)
    · skip
      have c20 := if01_z er17 c20
      have c20 : ¬ (¬ p1 < 0 ∧ ¬ nI (T 0 0) ≤ p1) := fun h9 => c20 ((in_pred (by omega) ev16).mpr h9)
      refine lv_iconst (v := (-1)) hx hb dX9_label_37 (by decide) ?_
      refine W.iret (v := (-1)) hx hb hr (fun t ht hW => ⟨⟨_, (ad, cap, I, J), rfl, ?_, by rw [ht]; exact hP, by show va_D (va_A (Wd y ad cap I J) s.heap.size) _; rw [hAe]; exact hD⟩, hS.F ht⟩) hS.2.2 dX9_label_38
      refine ⟨I, rfl, fun h9 => absurd h9 (fun h8 => ?_), fun _ => ⟨rfl, rfl⟩⟩
      obtain ⟨g1, g2, g3⟩ := h8
      first | omega | exact c20 g2 | exact c34 (by rw [s02] at g3; exact g3)
    · skip
      have c20 := if01_n er17 c20
      have c20 := (in_pred (by omega) ev16).mp c20
      obtain ⟨s0, s01, hs0⟩ := ix_ok (n := T 0 0) (by omega) c20
      have s02 : p1.toNatClampNeg = s0 := by rw [s01]; exact nI_clamp (by omega)
      clear er17
      obtain ⟨g5, g6, g7⟩ := wS s0 hs0
      subst s01
      refine lv_iload_n hx hb dX9_label_23 rfl (lv_at hl 2 rfl) ?_
      refine lv_iconst (v := 0) hx hb dX9_label_24 (by decide) ?_
      refine lv_aload_n hx hb dX9_label_25 rfl (lv_at hl 0 rfl) ?_
      refine va_get (D := D) (T := TX9) (N := 51) hx hb hts jnX9 hown hK hP 55 (wd_55 y ad cap I J) rfl 4 (by decide) (hts _ fl_X9_7) (fun _ h9 => h9) rfl dX9_label_26 ?_
      refine lv_iload_n hx hb dX9_label_29 rfl (lv_at hl 1 rfl) ?_
      refine va_iald (D := D) hx hb hK hP 56 0 (wd_56 y ad cap I J) rfl (vp_in_nI (by omega) (by omega)) dX9_label_30 ?_
      rw [nI_clamp (n := s0) (by omega)]
      refine lv_topi (fun v30 ev30 => ?_)
      obtain rfl : v30 = (nI (T 1 s0)) := by
        rw [ev30]; exact (hM.2.1 _ (by omega)).1
      refine rk_i (run_s (As := [.int p2, .int 0, .int (nI (T 1 s0))]) (rest := []) hx hb hml hown hO.2 (c_X9_in l D y p2 0 (nI (T 1 s0))) k_X9_in ml_X9_110 ⟨rfl, rfl⟩ ⟨Nat.le_of_ble_eq_true rfl, Nat.le_of_ble_eq_true rfl⟩ (pre_SR hO hP) rfl hl.1 rfl (Nat.le_of_ble_eq_true rfl) dX9_label_31 ⟨(Nat.zero_le _), (Nat.zero_le _)⟩) (fun r31 er31 => ?_)
      try dsimp only at er31
      refine lv_if_ne (tgt := 39) hx hb dX9_label_34 (by decide) (fun c34 => ?_) (fun c34 => ?_)
      · skip
        have c34 := if01_n er31 c34
        have hV : labV T (nI s0) p2 := ⟨by omega, c20, by rw [s02]; exact c34⟩
        obtain ⟨f1, hf0⟩ := inR_nat (n := T 1 s0) (nI_toInt (by omega)) c34
        try rw [s02]
        generalize p2.toNatClampNeg = f0 at f1 hf0 ⊢
        clear er31 c34
        subst f1
        refine lv_aload_n hx hb dX9_label_39 rfl (lv_at hl 0 rfl) ?_
        refine va_get (D := D) (T := TX9) (N := 51) hx hb hts jnX9 hown hK hP 55 (wd_55 y ad cap I J) rfl 7 (by decide) (hts _ fl_X9_20) (fun _ h9 => h9) rfl dX9_label_40 ?_
        refine lv_aload_n hx hb dX9_label_43 rfl (lv_at hl 0 rfl) ?_
        refine va_get (D := D) (T := TX9) (N := 51) hx hb hts jnX9 hown hK hP 55 (wd_55 y ad cap I J) rfl 1 (by decide) (hts _ fl_X9_121) (fun _ h9 => h9) rfl dX9_label_44 ?_
        refine lv_topi (fun v44 ev44 => ?_)
        obtain rfl : v44 = (nI (T 0 1)) := by
          rw [ev44]; exact hM.1.2.1
        refine lv_iload_n hx hb dX9_label_47 rfl (lv_at hl 1 rfl) ?_
        refine va_iast (D := D) hx hb hK hP hD hS 59 0 (wd_59 y ad cap I J) rfl (vp_in_nI (by omega) (by omega)) dX9_label_48 (fun H locs hP hD hS => ?_)
        rw [nI_clamp (n := T 0 1) (by omega)] at hP hD
        rw [ws_59] at hP hD
        generalize eI48 : va_up I 59 (upd (I 59) (T 0 1) (nI s0)) = I48 at hP hD
        refine lv_aload_n hx hb dX9_label_49 rfl (lv_at hl 0 rfl) ?_
        refine va_get (D := D) (T := TX9) (N := 51) hx hb hts jnX9 hown hK hP 55 (wd_55 y ad cap I48 J) rfl 8 (by decide) (hts _ fl_X9_23) (fun _ h9 => h9) rfl dX9_label_50 ?_
        refine lv_aload_n hx hb dX9_label_53 rfl (lv_at hl 0 rfl) ?_
        refine va_get (D := D) (T := TX9) (N := 51) hx hb hts jnX9 hown hK hP 55 (wd_55 y ad cap I48 J) rfl 1 (by decide) (hts _ fl_X9_121) (fun _ h9 => h9) rfl dX9_label_54 ?_
        refine lv_topi (fun v54 ev54 => ?_)
        obtain rfl : v54 = (nI (T 0 1)) := by
          rw [ev54, ← eI48]; simpa [va_up, upd] using hM.1.2.1
        refine lv_iload_n hx hb dX9_label_57 rfl (lv_at hl 2 rfl) ?_
        refine va_iast (D := D) hx hb hK hP hD hS 60 0 (wd_60 y ad cap I48 J) rfl (vp_in_nI (by omega) (by omega)) dX9_label_58 (fun H locs hP hD hS => ?_)
        rw [nI_clamp (n := T 0 1) (by omega)] at hP hD
        rw [ws_60] at hP hD
        generalize eI58 : va_up I48 60 (upd (I48 60) (T 0 1) (nI f0)) = I58 at hP hD
        refine lv_aload_n hx hb dX9_label_59 rfl (lv_at hl 0 rfl) ?_
        refine lv_dup hx hb dX9_label_60 rfl ?_
        refine va_get (D := D) (T := TX9) (N := 51) hx hb hts jnX9 hown hK hP 55 (wd_55 y ad cap I58 J) rfl 1 (by decide) (hts _ fl_X9_121) (fun _ h9 => h9) rfl dX9_label_61 ?_
        refine lv_topi (fun v61 ev61 => ?_)
        obtain rfl : v61 = (nI (T 0 1)) := by
          rw [ev61, ← eI58, ← eI48]; simpa [va_up, upd] using hM.1.2.1
        refine lv_iconst (v := 1) hx hb dX9_label_64 (by decide) ?_
        refine lv_iadd hx hb dX9_label_65 ?_
        refine lv_topi (fun v65 ev65 => ?_)
        obtain rfl : v65 = (nI ((T 0 1) + 1)) := by rw [ev65, show (1 : Int32) = nI 1 from rfl, nI_add]
        refine va_put (D := D) (T := TX9) (N := 51) (v := .int (nI ((T 0 1) + 1))) (ty := .int) hx hb hts jnX9 tyX9 tyX9_ok nmX9 hown hK hP hD hS 55 (wd_55 y ad cap I58 J) rfl 1 (by decide) (hts _ fl_X9_121) (fun _ h9 => h9) rfl (by decide +kernel) rfl rfl (Nat.le_of_ble_eq_true rfl) dX9_label_66 (fun H locs hP hD hS => ?_)
        rw [wp_55_1] at hP hD
        generalize eI66 : va_up I58 55 (upd (I58 55) 1 (nI ((T 0 1) + 1))) = I66 at hP hD
        refine lv_aload_n hx hb dX9_label_69 rfl (lv_at hl 0 rfl) ?_
        refine lv_iconst (v := 1) hx hb dX9_label_70 (by decide) ?_
        refine va_put (D := D) (T := TX9) (N := 51) (v := .int 1) (ty := .boolean) hx hb hts jnX9 tyX9 tyX9_ok nmX9 hown hK hP hD hS 55 (wd_55 y ad cap I66 J) rfl 19 (by decide) (hts _ fl_X9_117) (fun _ h9 => h9) rfl (by decide +kernel) rfl rfl (Nat.le_of_ble_eq_true rfl) dX9_label_71 (fun H locs hP hD hS => ?_)
        rw [wp_55_19] at hP hD
        generalize eI71 : va_up I66 55 (upd (I66 55) 19 1) = I71 at hP hD
        refine lv_aload_n hx hb dX9_label_74 rfl (lv_at hl 0 rfl) ?_
        refine va_get (D := D) (T := TX9) (N := 51) hx hb hts jnX9 hown hK hP 55 (wd_55 y ad cap I71 J) rfl 1 (by decide) (hts _ fl_X9_121) (fun _ h9 => h9) rfl dX9_label_75 ?_
        refine lv_topi (fun v75 ev75 => ?_)
        obtain rfl : v75 = (nI (T 0 1 + 1)) := by
          rw [ev75, ← eI71, ← eI66]; simp [va_up, upd]
        refine lv_iconst (v := 1) hx hb dX9_label_78 (by decide) ?_
        refine lv_isub hx hb dX9_label_79 ?_
        refine lv_topi (fun v79 ev79 => ?_)
        obtain rfl : v79 = (nI (T 0 1)) := by
          rw [ev79, show (1 : Int32) = nI 1 from rfl, pk_sub (by omega)]; rfl
        refine W.iret (v := (nI (T 0 1))) hx hb hr (fun t ht hW => ⟨⟨_, (ad, cap, I71, J), rfl, ?_, by rw [ht]; exact hP, by show va_D (va_A (Wd y ad cap I J) s.heap.size) _; rw [hAe]; exact hD⟩, hS.F ht⟩) hS.2.2 dX9_label_80
        obtain ⟨g1, g2, g3, g4⟩ := RM_addL (s := s0) (f := f0) hM eI48 eI58 eI66 eI71
        exact ⟨_, rfl, fun _ => ⟨rfl, g1, g2, g3, g4⟩, fun h9 => absurd hV h9⟩
      · skip
        have c34 := if01_z er31 c34
        refine lv_iconst (v := (-1)) hx hb dX9_label_37 (by decide) ?_
        refine W.iret (v := (-1)) hx hb hr (fun t ht hW => ⟨⟨_, (ad, cap, I, J), rfl, ?_, by rw [ht]; exact hP, by show va_D (va_A (Wd y ad cap I J) s.heap.size) _; rw [hAe]; exact hD⟩, hS.F ht⟩) hS.2.2 dX9_label_38
        refine ⟨I, rfl, fun h9 => absurd h9 (fun h8 => ?_), fun _ => ⟨rfl, rfl⟩⟩
        obtain ⟨g1, g2, g3⟩ := h8
        first | omega | exact c20 g2 | exact c34 (by rw [s02] at g3; exact g3)
set_option maxHeartbeats 4000000 in
set_option maxRecDepth 100000 in
theorem c_X9_kind (l : Launch) (D : va_G) (y : Nat → ClassId) (ad : Nat → Nat) (cap : Nat → Nat) (I : Nat → Nat → Int32) (J : Nat → Nat → Int64) (sz : Nat) {T : Nat → Nat → Nat} (hM : RM I T) (hW : WF T) (p1 p2 p3 : Int32) : Met l yX9_kind [.code yX9_kind cX9_kind 4 (some .boolean)] ({ frames := 1, cells := 0, slots := 0, locals := 22 }) (va_Pc [.ref (ad 55), .int p1, .int p2, .int p3] (PW D y (Wd y ad cap I J) sz)) (va_Qi (fun (r : Int32) (u : St4) => ∃ I', u = (ad, cap, I', J) ∧ (kndV p1 p2 p3 → r = 1 ∧ RM I' (addK T p1.toNatClampNeg (pw p2) p3.toNatClampNeg) ∧ EqX [55, 65, 66] I I' ∧ EqF I I' ∧ I' 55 19 = 1) ∧ (¬ kndV p1 p2 p3 → r = 0 ∧ I' = I)) (Aft D (Wt y) (Wd y ad cap I J) sz) (va_A (Wd y ad cap I J) sz)) 0 0 (va_A (Wd y ad cap I J) sz) := by
  refine Met.ofW (cc := cX9_kind) (maxL := 4) (ret := (some .boolean)) (by decide) rfl ?_
  intro p e s m args below meth c s₁ B hml hv
  obtain ⟨rfl, rfl, hP, hD0, hO⟩ := hv
  have hx := B.exec
  have hb := B.bytes
  have hr := B.returns
  have hown : s.vm.findClass RX9 = some m.cls := findClass_of_methodNamed B.named
  have hlocks := B.notSynchronized
  have hK := hO.1
  have hts : ∀ w ∈ lw_E, w.before ([.ref (ad 55), .int p1, .int p2, .int p3] : List Value).toArray s = true := fun w h => hO.2 w h _
  clear B
  have hD := hD0.self (sz := s.heap.size)
  generalize hAe : va_A (Wd y ad cap I J) s.heap.size = A at hD ⊢
  have hA : ∀ q : Nat, s.heap.size ≤ q → A q := fun q h => by rw [← hAe]; exact Or.inr h
  have hS : va_S A s.heap s.heap [] := va_S.rf
  have hl := lv_entry ([.ref (ad 55), .int p1, .int p2, .int p3]) (n := 4) (Nat.le_of_ble_eq_true rfl)
  rw [lg_entry_eq]
  generalize (lg_sl ([.ref (ad 55), .int p1, .int p2, .int p3]) ++ List.replicate (4 - (lg_sl ([.ref (ad 55), .int p1, .int p2, .int p3])).length) Slot.unset).toArray = ls at hl ⊢
  have hl : lv_has ls 4 [(0, .ref (ad 55)), (1, .int p1), (2, .int p2), (3, .int p3)] := hl
  have hW0 := hW
  obtain ⟨⟨w1, w2, w3, w4, w5, w6, w7⟩, wS, wL, wB, wK, wTk, wT0⟩ := hW
  refine lv_iload_n hx hb dX9_kind_0 rfl (lv_at hl 1 rfl) ?_
  refine lv_iconst (v := 0) hx hb dX9_kind_1 (by decide) ?_
  refine lv_bipush (v := 7) hx hb dX9_kind_2 (by decide) ?_
  refine rk_i (run_s (As := [.int p1, .int 0, .int 7]) (rest := []) hx hb hml hown hO.2 (c_X9_in l D y p1 0 7) k_X9_in ml_X9_110 ⟨rfl, rfl⟩ ⟨Nat.le_of_ble_eq_true rfl, Nat.le_of_ble_eq_true rfl⟩ (pre_SR hO hP) rfl hl.1 rfl (Nat.le_of_ble_eq_true rfl) dX9_kind_4 ⟨(Nat.zero_le _), (Nat.zero_le _)⟩) (fun r4 er4 => ?_)
  try dsimp only at er4
  refine lv_if_eq (tgt := 41) hx hb dX9_kind_7 (by decide) (fun c7 => ?_) (fun c7 => ?_)
  · skip
    have c7 := if01_z er4 c7
    refine lv_iconst (v := 0) hx hb dX9_kind_41 (by decide) ?_
    refine W.zret (v := 0) hx hb hr (by decide) (fun t ht hW => ⟨⟨_, (ad, cap, I, J), rfl, ?_, by rw [ht]; exact hP, by show va_D (va_A (Wd y ad cap I J) s.heap.size) _; rw [hAe]; exact hD⟩, hS.F ht⟩) hS.2.2 dX9_kind_42
    refine ⟨I, rfl, fun h9 => absurd h9 (fun h8 => ?_), fun _ => ⟨rfl, rfl⟩⟩
    obtain ⟨g1, g2, g3⟩ := h8
    first | exact c7 g1 | exact c38 g3 | (rcases g2 with h | h | h | h; exact c12 h; exact c17 h; exact c22 h; exact c28 h)
  · skip
    have c7 := if01_n er4 c7
    refine lv_iload_n hx hb dX9_kind_10 rfl (lv_at hl 2 rfl) ?_
    refine lv_iconst (v := 1) hx hb dX9_kind_11 (by decide) ?_
    refine lv_icmp_eq (tgt := 31) hx hb dX9_kind_12 (by decide) (fun c12 => ?_) (fun c12 => ?_)
    · skip
      refine lv_iload_n hx hb dX9_kind_31 rfl (lv_at hl 3 rfl) ?_
      refine lv_iconst (v := 4) hx hb dX9_kind_32 (by decide) ?_
      refine lv_bipush (v := 30) hx hb dX9_kind_33 (by decide) ?_
      refine rk_i (run_s (As := [.int p3, .int 4, .int 30]) (rest := []) hx hb hml hown hO.2 (c_X9_in l D y p3 4 30) k_X9_in ml_X9_110 ⟨rfl, rfl⟩ ⟨Nat.le_of_ble_eq_true rfl, Nat.le_of_ble_eq_true rfl⟩ (pre_SR hO hP) rfl hl.1 rfl (Nat.le_of_ble_eq_true rfl) dX9_kind_35 ⟨(Nat.zero_le _), (Nat.zero_le _)⟩) (fun r35 er35 => ?_)
      try dsimp only at er35
      refine lv_if_ne (tgt := 43) hx hb dX9_kind_38 (by decide) (fun c38 => ?_) (fun c38 => ?_)
      · skip
        have c38 := if01_n er35 c38
        have hst : p2 = 1 ∨ p2 = 2 ∨ p2 = 4 ∨ p2 = 8 := by first | exact Or.inl c12 | exact Or.inr (Or.inl c17) | exact Or.inr (Or.inr (Or.inl c22)) | exact Or.inr (Or.inr (Or.inr c28))
        have hV : kndV p1 p2 p3 := ⟨c7, hst, c38⟩
        have hp2 := pw_eq hst
        obtain ⟨k1, hk⟩ := inR_nat (n := 7) rfl hV.1
        have hb4 : 4 ≤ p3.toNatClampNeg := by
          have h9 := c38.1
          rw [Int32.lt_iff_toInt_lt] at h9
          have h8 : (4 : Int32).toInt = 4 := rfl
          have h7 : (p3.toNatClampNeg : Int) = p3.toInt := by unfold Int32.toNatClampNeg; omega
          omega
        obtain ⟨b1, hb9⟩ := inR_nat (v := p3) (n := 30) rfl ⟨fun h9 => c38.1 (by rw [Int32.lt_iff_toInt_lt] at *; have h7 : (0 : Int32).toInt = 0 := rfl; have h8 : (4 : Int32).toInt = 4 := rfl; omega), c38.2⟩
        generalize p1.toNatClampNeg = k at k1 hk ⊢
        generalize p3.toNatClampNeg = b at b1 hb9 hb4 ⊢
        clear er4 er35 c7 c38
        subst k1
        subst b1
        refine lv_aload_n hx hb dX9_kind_43 rfl (lv_at hl 0 rfl) ?_
        refine va_get (D := D) (T := TX9) (N := 51) hx hb hts jnX9 hown hK hP 55 (wd_55 y ad cap I J) rfl 13 (by decide) (hts _ fl_X9_38) (fun _ h9 => h9) rfl dX9_kind_44 ?_
        refine lv_iload_n hx hb dX9_kind_47 rfl (lv_at hl 1 rfl) ?_
        refine lv_iload_n hx hb dX9_kind_48 rfl (lv_at hl 2 rfl) ?_
        refine va_iast (D := D) hx hb hK hP hD hS 65 0 (wd_65 y ad cap I J) rfl (vp_in_nI (by omega) (by omega)) dX9_kind_49 (fun H locs hP hD hS => ?_)
        rw [nI_clamp (n := k) (by omega)] at hP hD
        rw [ws_65] at hP hD
        generalize eI49 : va_up I 65 (upd (I 65) k p2) = I49 at hP hD
        refine lv_aload_n hx hb dX9_kind_50 rfl (lv_at hl 0 rfl) ?_
        refine va_get (D := D) (T := TX9) (N := 51) hx hb hts jnX9 hown hK hP 55 (wd_55 y ad cap I49 J) rfl 14 (by decide) (hts _ fl_X9_41) (fun _ h9 => h9) rfl dX9_kind_51 ?_
        refine lv_iload_n hx hb dX9_kind_54 rfl (lv_at hl 1 rfl) ?_
        refine lv_iload_n hx hb dX9_kind_55 rfl (lv_at hl 3 rfl) ?_
        refine va_iast (D := D) hx hb hK hP hD hS 66 0 (wd_66 y ad cap I49 J) rfl (vp_in_nI (by omega) (by omega)) dX9_kind_56 (fun H locs hP hD hS => ?_)
        rw [nI_clamp (n := k) (by omega)] at hP hD
        rw [ws_66] at hP hD
        generalize eI56 : va_up I49 66 (upd (I49 66) k (nI b)) = I56 at hP hD
        refine lv_aload_n hx hb dX9_kind_57 rfl (lv_at hl 0 rfl) ?_
        refine lv_iconst (v := 1) hx hb dX9_kind_58 (by decide) ?_
        refine va_put (D := D) (T := TX9) (N := 51) (v := .int 1) (ty := .boolean) hx hb hts jnX9 tyX9 tyX9_ok nmX9 hown hK hP hD hS 55 (wd_55 y ad cap I56 J) rfl 19 (by decide) (hts _ fl_X9_117) (fun _ h9 => h9) rfl (by decide +kernel) rfl rfl (Nat.le_of_ble_eq_true rfl) dX9_kind_59 (fun H locs hP hD hS => ?_)
        rw [wp_55_19] at hP hD
        generalize eI59 : va_up I56 55 (upd (I56 55) 19 1) = I59 at hP hD
        refine lv_iconst (v := 1) hx hb dX9_kind_62 (by decide) ?_
        refine W.zret (v := 1) hx hb hr (by decide) (fun t ht hW => ⟨⟨_, (ad, cap, I59, J), rfl, ?_, by rw [ht]; exact hP, by show va_D (va_A (Wd y ad cap I J) s.heap.size) _; rw [hAe]; exact hD⟩, hS.F ht⟩) hS.2.2 dX9_kind_63
        obtain ⟨g1, g2, g3, g4⟩ := RM_addK (k := k) (p := pw p2) (b := b) (by omega) hM (show va_up I 65 (upd (I 65) k (nI (2 ^ pw p2))) = I49 from by rw [← hp2]; exact eI49) eI56 eI59
        exact ⟨_, rfl, fun _ => ⟨rfl, g1, g2, g3, g4⟩, fun h9 => absurd hV h9⟩
      · skip
        have c38 := if01_z er35 c38
        refine lv_iconst (v := 0) hx hb dX9_kind_41 (by decide) ?_
        refine W.zret (v := 0) hx hb hr (by decide) (fun t ht hW => ⟨⟨_, (ad, cap, I, J), rfl, ?_, by rw [ht]; exact hP, by show va_D (va_A (Wd y ad cap I J) s.heap.size) _; rw [hAe]; exact hD⟩, hS.F ht⟩) hS.2.2 dX9_kind_42
        refine ⟨I, rfl, fun h9 => absurd h9 (fun h8 => ?_), fun _ => ⟨rfl, rfl⟩⟩
        obtain ⟨g1, g2, g3⟩ := h8
        first | exact c7 g1 | exact c38 g3 | (rcases g2 with h | h | h | h; exact c12 h; exact c17 h; exact c22 h; exact c28 h)
    · skip
      refine lv_iload_n hx hb dX9_kind_15 rfl (lv_at hl 2 rfl) ?_
      refine lv_iconst (v := 2) hx hb dX9_kind_16 (by decide) ?_
      refine lv_icmp_eq (tgt := 31) hx hb dX9_kind_17 (by decide) (fun c17 => ?_) (fun c17 => ?_)
      · skip
        refine lv_iload_n hx hb dX9_kind_31 rfl (lv_at hl 3 rfl) ?_
        refine lv_iconst (v := 4) hx hb dX9_kind_32 (by decide) ?_
        refine lv_bipush (v := 30) hx hb dX9_kind_33 (by decide) ?_
        refine rk_i (run_s (As := [.int p3, .int 4, .int 30]) (rest := []) hx hb hml hown hO.2 (c_X9_in l D y p3 4 30) k_X9_in ml_X9_110 ⟨rfl, rfl⟩ ⟨Nat.le_of_ble_eq_true rfl, Nat.le_of_ble_eq_true rfl⟩ (pre_SR hO hP) rfl hl.1 rfl (Nat.le_of_ble_eq_true rfl) dX9_kind_35 ⟨(Nat.zero_le _), (Nat.zero_le _)⟩) (fun r35 er35 => ?_)
        try dsimp only at er35
        refine lv_if_ne (tgt := 43) hx hb dX9_kind_38 (by decide) (fun c38 => ?_) (fun c38 => ?_)
        · skip
          have c38 := if01_n er35 c38
          have hst : p2 = 1 ∨ p2 = 2 ∨ p2 = 4 ∨ p2 = 8 := by first | exact Or.inl c12 | exact Or.inr (Or.inl c17) | exact Or.inr (Or.inr (Or.inl c22)) | exact Or.inr (Or.inr (Or.inr c28))
          have hV : kndV p1 p2 p3 := ⟨c7, hst, c38⟩
          have hp2 := pw_eq hst
          obtain ⟨k1, hk⟩ := inR_nat (n := 7) rfl hV.1
          have hb4 : 4 ≤ p3.toNatClampNeg := by
            have h9 := c38.1
            rw [Int32.lt_iff_toInt_lt] at h9
            have h8 : (4 : Int32).toInt = 4 := rfl
            have h7 : (p3.toNatClampNeg : Int) = p3.toInt := by unfold Int32.toNatClampNeg; omega
            omega
          obtain ⟨b1, hb9⟩ := inR_nat (v := p3) (n := 30) rfl ⟨fun h9 => c38.1 (by rw [Int32.lt_iff_toInt_lt] at *; have h7 : (0 : Int32).toInt = 0 := rfl; have h8 : (4 : Int32).toInt = 4 := rfl; omega), c38.2⟩
          generalize p1.toNatClampNeg = k at k1 hk ⊢
          generalize p3.toNatClampNeg = b at b1 hb9 hb4 ⊢
          clear er4 er35 c7 c38
          subst k1
          subst b1
          refine lv_aload_n hx hb dX9_kind_43 rfl (lv_at hl 0 rfl) ?_
          refine va_get (D := D) (T := TX9) (N := 51) hx hb hts jnX9 hown hK hP 55 (wd_55 y ad cap I J) rfl 13 (by decide) (hts _ fl_X9_38) (fun _ h9 => h9) rfl dX9_kind_44 ?_
          refine lv_iload_n hx hb dX9_kind_47 rfl (lv_at hl 1 rfl) ?_
          refine lv_iload_n hx hb dX9_kind_48 rfl (lv_at hl 2 rfl) ?_
          refine va_iast (D := D) hx hb hK hP hD hS 65 0 (wd_65 y ad cap I J) rfl (vp_in_nI (by omega) (by omega)) dX9_kind_49 (fun H locs hP hD hS => ?_)
          rw [nI_clamp (n := k) (by omega)] at hP hD
          rw [ws_65] at hP hD
          generalize eI49 : va_up I 65 (upd (I 65) k p2) = I49 at hP hD
          refine lv_aload_n hx hb dX9_kind_50 rfl (lv_at hl 0 rfl) ?_
          refine va_get (D := D) (T := TX9) (N := 51) hx hb hts jnX9 hown hK hP 55 (wd_55 y ad cap I49 J) rfl 14 (by decide) (hts _ fl_X9_41) (fun _ h9 => h9) rfl dX9_kind_51 ?_
          refine lv_iload_n hx hb dX9_kind_54 rfl (lv_at hl 1 rfl) ?_
          refine lv_iload_n hx hb dX9_kind_55 rfl (lv_at hl 3 rfl) ?_
          refine va_iast (D := D) hx hb hK hP hD hS 66 0 (wd_66 y ad cap I49 J) rfl (vp_in_nI (by omega) (by omega)) dX9_kind_56 (fun H locs hP hD hS => ?_)
          rw [nI_clamp (n := k) (by omega)] at hP hD
          rw [ws_66] at hP hD
          generalize eI56 : va_up I49 66 (upd (I49 66) k (nI b)) = I56 at hP hD
          refine lv_aload_n hx hb dX9_kind_57 rfl (lv_at hl 0 rfl) ?_
          refine lv_iconst (v := 1) hx hb dX9_kind_58 (by decide) ?_
          refine va_put (D := D) (T := TX9) (N := 51) (v := .int 1) (ty := .boolean) hx hb hts jnX9 tyX9 tyX9_ok nmX9 hown hK hP hD hS 55 (wd_55 y ad cap I56 J) rfl 19 (by decide) (hts _ fl_X9_117) (fun _ h9 => h9) rfl (by decide +kernel) rfl rfl (Nat.le_of_ble_eq_true rfl) dX9_kind_59 (fun H locs hP hD hS => ?_)
          rw [wp_55_19] at hP hD
          generalize eI59 : va_up I56 55 (upd (I56 55) 19 1) = I59 at hP hD
          refine lv_iconst (v := 1) hx hb dX9_kind_62 (by decide) ?_
          refine W.zret (v := 1) hx hb hr (by decide) (fun t ht hW => ⟨⟨_, (ad, cap, I59, J), rfl, ?_, by rw [ht]; exact hP, by show va_D (va_A (Wd y ad cap I J) s.heap.size) _; rw [hAe]; exact hD⟩, hS.F ht⟩) hS.2.2 dX9_kind_63
          obtain ⟨g1, g2, g3, g4⟩ := RM_addK (k := k) (p := pw p2) (b := b) (by omega) hM (show va_up I 65 (upd (I 65) k (nI (2 ^ pw p2))) = I49 from by rw [← hp2]; exact eI49) eI56 eI59
          exact ⟨_, rfl, fun _ => ⟨rfl, g1, g2, g3, g4⟩, fun h9 => absurd hV h9⟩
        · skip
          have c38 := if01_z er35 c38
          refine lv_iconst (v := 0) hx hb dX9_kind_41 (by decide) ?_
          refine W.zret (v := 0) hx hb hr (by decide) (fun t ht hW => ⟨⟨_, (ad, cap, I, J), rfl, ?_, by rw [ht]; exact hP, by show va_D (va_A (Wd y ad cap I J) s.heap.size) _; rw [hAe]; exact hD⟩, hS.F ht⟩) hS.2.2 dX9_kind_42
          refine ⟨I, rfl, fun h9 => absurd h9 (fun h8 => ?_), fun _ => ⟨rfl, rfl⟩⟩
          obtain ⟨g1, g2, g3⟩ := h8
          first | exact c7 g1 | exact c38 g3 | (rcases g2 with h | h | h | h; exact c12 h; exact c17 h; exact c22 h; exact c28 h)
      · skip
        refine lv_iload_n hx hb dX9_kind_20 rfl (lv_at hl 2 rfl) ?_
        refine lv_iconst (v := 4) hx hb dX9_kind_21 (by decide) ?_
        refine lv_icmp_eq (tgt := 31) hx hb dX9_kind_22 (by decide) (fun c22 => ?_) (fun c22 => ?_)
        · skip
          refine lv_iload_n hx hb dX9_kind_31 rfl (lv_at hl 3 rfl) ?_
          refine lv_iconst (v := 4) hx hb dX9_kind_32 (by decide) ?_
          refine lv_bipush (v := 30) hx hb dX9_kind_33 (by decide) ?_
          refine rk_i (run_s (As := [.int p3, .int 4, .int 30]) (rest := []) hx hb hml hown hO.2 (c_X9_in l D y p3 4 30) k_X9_in ml_X9_110 ⟨rfl, rfl⟩ ⟨Nat.le_of_ble_eq_true rfl, Nat.le_of_ble_eq_true rfl⟩ (pre_SR hO hP) rfl hl.1 rfl (Nat.le_of_ble_eq_true rfl) dX9_kind_35 ⟨(Nat.zero_le _), (Nat.zero_le _)⟩) (fun r35 er35 => ?_)
          try dsimp only at er35
          refine lv_if_ne (tgt := 43) hx hb dX9_kind_38 (by decide) (fun c38 => ?_) (fun c38 => ?_)
          · skip
            have c38 := if01_n er35 c38
            have hst : p2 = 1 ∨ p2 = 2 ∨ p2 = 4 ∨ p2 = 8 := by first | exact Or.inl c12 | exact Or.inr (Or.inl c17) | exact Or.inr (Or.inr (Or.inl c22)) | exact Or.inr (Or.inr (Or.inr c28))
            have hV : kndV p1 p2 p3 := ⟨c7, hst, c38⟩
            have hp2 := pw_eq hst
            obtain ⟨k1, hk⟩ := inR_nat (n := 7) rfl hV.1
            have hb4 : 4 ≤ p3.toNatClampNeg := by
              have h9 := c38.1
              rw [Int32.lt_iff_toInt_lt] at h9
              have h8 : (4 : Int32).toInt = 4 := rfl
              have h7 : (p3.toNatClampNeg : Int) = p3.toInt := by unfold Int32.toNatClampNeg; omega
              omega
            obtain ⟨b1, hb9⟩ := inR_nat (v := p3) (n := 30) rfl ⟨fun h9 => c38.1 (by rw [Int32.lt_iff_toInt_lt] at *; have h7 : (0 : Int32).toInt = 0 := rfl; have h8 : (4 : Int32).toInt = 4 := rfl; omega), c38.2⟩
            generalize p1.toNatClampNeg = k at k1 hk ⊢
            generalize p3.toNatClampNeg = b at b1 hb9 hb4 ⊢
            clear er4 er35 c7 c38
            subst k1
            subst b1
            refine lv_aload_n hx hb dX9_kind_43 rfl (lv_at hl 0 rfl) ?_
            refine va_get (D := D) (T := TX9) (N := 51) hx hb hts jnX9 hown hK hP 55 (wd_55 y ad cap I J) rfl 13 (by decide) (hts _ fl_X9_38) (fun _ h9 => h9) rfl dX9_kind_44 ?_
            refine lv_iload_n hx hb dX9_kind_47 rfl (lv_at hl 1 rfl) ?_
            refine lv_iload_n hx hb dX9_kind_48 rfl (lv_at hl 2 rfl) ?_
            refine va_iast (D := D) hx hb hK hP hD hS 65 0 (wd_65 y ad cap I J) rfl (vp_in_nI (by omega) (by omega)) dX9_kind_49 (fun H locs hP hD hS => ?_)
            rw [nI_clamp (n := k) (by omega)] at hP hD
            rw [ws_65] at hP hD
            generalize eI49 : va_up I 65 (upd (I 65) k p2) = I49 at hP hD
            refine lv_aload_n hx hb dX9_kind_50 rfl (lv_at hl 0 rfl) ?_
            refine va_get (D := D) (T := TX9) (N := 51) hx hb hts jnX9 hown hK hP 55 (wd_55 y ad cap I49 J) rfl 14 (by decide) (hts _ fl_X9_41) (fun _ h9 => h9) rfl dX9_kind_51 ?_
            refine lv_iload_n hx hb dX9_kind_54 rfl (lv_at hl 1 rfl) ?_
            refine lv_iload_n hx hb dX9_kind_55 rfl (lv_at hl 3 rfl) ?_
            refine va_iast (D := D) hx hb hK hP hD hS 66 0 (wd_66 y ad cap I49 J) rfl (vp_in_nI (by omega) (by omega)) dX9_kind_56 (fun H locs hP hD hS => ?_)
            rw [nI_clamp (n := k) (by omega)] at hP hD
            rw [ws_66] at hP hD
            generalize eI56 : va_up I49 66 (upd (I49 66) k (nI b)) = I56 at hP hD
            refine lv_aload_n hx hb dX9_kind_57 rfl (lv_at hl 0 rfl) ?_
            refine lv_iconst (v := 1) hx hb dX9_kind_58 (by decide) ?_
            refine va_put (D := D) (T := TX9) (N := 51) (v := .int 1) (ty := .boolean) hx hb hts jnX9 tyX9 tyX9_ok nmX9 hown hK hP hD hS 55 (wd_55 y ad cap I56 J) rfl 19 (by decide) (hts _ fl_X9_117) (fun _ h9 => h9) rfl (by decide +kernel) rfl rfl (Nat.le_of_ble_eq_true rfl) dX9_kind_59 (fun H locs hP hD hS => ?_)
            rw [wp_55_19] at hP hD
            generalize eI59 : va_up I56 55 (upd (I56 55) 19 1) = I59 at hP hD
            refine lv_iconst (v := 1) hx hb dX9_kind_62 (by decide) ?_
            refine W.zret (v := 1) hx hb hr (by decide) (fun t ht hW => ⟨⟨_, (ad, cap, I59, J), rfl, ?_, by rw [ht]; exact hP, by show va_D (va_A (Wd y ad cap I J) s.heap.size) _; rw [hAe]; exact hD⟩, hS.F ht⟩) hS.2.2 dX9_kind_63
            obtain ⟨g1, g2, g3, g4⟩ := RM_addK (k := k) (p := pw p2) (b := b) (by omega) hM (show va_up I 65 (upd (I 65) k (nI (2 ^ pw p2))) = I49 from by rw [← hp2]; exact eI49) eI56 eI59
            exact ⟨_, rfl, fun _ => ⟨rfl, g1, g2, g3, g4⟩, fun h9 => absurd hV h9⟩
          · skip
            have c38 := if01_z er35 c38
            refine lv_iconst (v := 0) hx hb dX9_kind_41 (by decide) ?_
            refine W.zret (v := 0) hx hb hr (by decide) (fun t ht hW => ⟨⟨_, (ad, cap, I, J), rfl, ?_, by rw [ht]; exact hP, by show va_D (va_A (Wd y ad cap I J) s.heap.size) _; rw [hAe]; exact hD⟩, hS.F ht⟩) hS.2.2 dX9_kind_42
            refine ⟨I, rfl, fun h9 => absurd h9 (fun h8 => ?_), fun _ => ⟨rfl, rfl⟩⟩
            obtain ⟨g1, g2, g3⟩ := h8
            first | exact c7 g1 | exact c38 g3 | (rcases g2 with h | h | h | h; exact c12 h; exact c17 h; exact c22 h; exact c28 h)
        · skip
          refine lv_iload_n hx hb dX9_kind_25 rfl (lv_at hl 2 rfl) ?_
          refine lv_bipush (v := 8) hx hb dX9_kind_26 (by decide) ?_
          refine lv_icmp_ne (tgt := 41) hx hb dX9_kind_28 (by decide) (fun c28 => ?_) (fun c28 => ?_)
          · skip
            refine lv_iconst (v := 0) hx hb dX9_kind_41 (by decide) ?_
            refine W.zret (v := 0) hx hb hr (by decide) (fun t ht hW => ⟨⟨_, (ad, cap, I, J), rfl, ?_, by rw [ht]; exact hP, by show va_D (va_A (Wd y ad cap I J) s.heap.size) _; rw [hAe]; exact hD⟩, hS.F ht⟩) hS.2.2 dX9_kind_42
            refine ⟨I, rfl, fun h9 => absurd h9 (fun h8 => ?_), fun _ => ⟨rfl, rfl⟩⟩
            obtain ⟨g1, g2, g3⟩ := h8
            first | exact c7 g1 | exact c38 g3 | (rcases g2 with h | h | h | h; exact c12 h; exact c17 h; exact c22 h; exact c28 h)
          · skip
            refine lv_iload_n hx hb dX9_kind_31 rfl (lv_at hl 3 rfl) ?_
            refine lv_iconst (v := 4) hx hb dX9_kind_32 (by decide) ?_
            refine lv_bipush (v := 30) hx hb dX9_kind_33 (by decide) ?_
            refine rk_i (run_s (As := [.int p3, .int 4, .int 30]) (rest := []) hx hb hml hown hO.2 (c_X9_in l D y p3 4 30) k_X9_in ml_X9_110 ⟨rfl, rfl⟩ ⟨Nat.le_of_ble_eq_true rfl, Nat.le_of_ble_eq_true rfl⟩ (pre_SR hO hP) rfl hl.1 rfl (Nat.le_of_ble_eq_true rfl) dX9_kind_35 ⟨(Nat.zero_le _), (Nat.zero_le _)⟩) (fun r35 er35 => ?_)
            try dsimp only at er35
            refine lv_if_ne (tgt := 43) hx hb dX9_kind_38 (by decide) (fun c38 => ?_) (fun c38 => ?_)
            · skip
              have c38 := if01_n er35 c38
              have hst : p2 = 1 ∨ p2 = 2 ∨ p2 = 4 ∨ p2 = 8 := by first | exact Or.inl c12 | exact Or.inr (Or.inl c17) | exact Or.inr (Or.inr (Or.inl c22)) | exact Or.inr (Or.inr (Or.inr c28))
              have hV : kndV p1 p2 p3 := ⟨c7, hst, c38⟩
              have hp2 := pw_eq hst
              obtain ⟨k1, hk⟩ := inR_nat (n := 7) rfl hV.1
              have hb4 : 4 ≤ p3.toNatClampNeg := by
                have h9 := c38.1
                rw [Int32.lt_iff_toInt_lt] at h9
                have h8 : (4 : Int32).toInt = 4 := rfl
                have h7 : (p3.toNatClampNeg : Int) = p3.toInt := by unfold Int32.toNatClampNeg; omega
                omega
              obtain ⟨b1, hb9⟩ := inR_nat (v := p3) (n := 30) rfl ⟨fun h9 => c38.1 (by rw [Int32.lt_iff_toInt_lt] at *; have h7 : (0 : Int32).toInt = 0 := rfl; have h8 : (4 : Int32).toInt = 4 := rfl; omega), c38.2⟩
              generalize p1.toNatClampNeg = k at k1 hk ⊢
              generalize p3.toNatClampNeg = b at b1 hb9 hb4 ⊢
              clear er4 er35 c7 c38
              subst k1
              subst b1
              refine lv_aload_n hx hb dX9_kind_43 rfl (lv_at hl 0 rfl) ?_
              refine va_get (D := D) (T := TX9) (N := 51) hx hb hts jnX9 hown hK hP 55 (wd_55 y ad cap I J) rfl 13 (by decide) (hts _ fl_X9_38) (fun _ h9 => h9) rfl dX9_kind_44 ?_
              refine lv_iload_n hx hb dX9_kind_47 rfl (lv_at hl 1 rfl) ?_
              refine lv_iload_n hx hb dX9_kind_48 rfl (lv_at hl 2 rfl) ?_
              refine va_iast (D := D) hx hb hK hP hD hS 65 0 (wd_65 y ad cap I J) rfl (vp_in_nI (by omega) (by omega)) dX9_kind_49 (fun H locs hP hD hS => ?_)
              rw [nI_clamp (n := k) (by omega)] at hP hD
              rw [ws_65] at hP hD
              generalize eI49 : va_up I 65 (upd (I 65) k p2) = I49 at hP hD
              refine lv_aload_n hx hb dX9_kind_50 rfl (lv_at hl 0 rfl) ?_
              refine va_get (D := D) (T := TX9) (N := 51) hx hb hts jnX9 hown hK hP 55 (wd_55 y ad cap I49 J) rfl 14 (by decide) (hts _ fl_X9_41) (fun _ h9 => h9) rfl dX9_kind_51 ?_
              refine lv_iload_n hx hb dX9_kind_54 rfl (lv_at hl 1 rfl) ?_
              refine lv_iload_n hx hb dX9_kind_55 rfl (lv_at hl 3 rfl) ?_
              refine va_iast (D := D) hx hb hK hP hD hS 66 0 (wd_66 y ad cap I49 J) rfl (vp_in_nI (by omega) (by omega)) dX9_kind_56 (fun H locs hP hD hS => ?_)
              rw [nI_clamp (n := k) (by omega)] at hP hD
              rw [ws_66] at hP hD
              generalize eI56 : va_up I49 66 (upd (I49 66) k (nI b)) = I56 at hP hD
              refine lv_aload_n hx hb dX9_kind_57 rfl (lv_at hl 0 rfl) ?_
              refine lv_iconst (v := 1) hx hb dX9_kind_58 (by decide) ?_
              refine va_put (D := D) (T := TX9) (N := 51) (v := .int 1) (ty := .boolean) hx hb hts jnX9 tyX9 tyX9_ok nmX9 hown hK hP hD hS 55 (wd_55 y ad cap I56 J) rfl 19 (by decide) (hts _ fl_X9_117) (fun _ h9 => h9) rfl (by decide +kernel) rfl rfl (Nat.le_of_ble_eq_true rfl) dX9_kind_59 (fun H locs hP hD hS => ?_)
              rw [wp_55_19] at hP hD
              generalize eI59 : va_up I56 55 (upd (I56 55) 19 1) = I59 at hP hD
              refine lv_iconst (v := 1) hx hb dX9_kind_62 (by decide) ?_
              refine W.zret (v := 1) hx hb hr (by decide) (fun t ht hW => ⟨⟨_, (ad, cap, I59, J), rfl, ?_, by rw [ht]; exact hP, by show va_D (va_A (Wd y ad cap I J) s.heap.size) _; rw [hAe]; exact hD⟩, hS.F ht⟩) hS.2.2 dX9_kind_63
              obtain ⟨g1, g2, g3, g4⟩ := RM_addK (k := k) (p := pw p2) (b := b) (by omega) hM (show va_up I 65 (upd (I 65) k (nI (2 ^ pw p2))) = I49 from by rw [← hp2]; exact eI49) eI56 eI59
              exact ⟨_, rfl, fun _ => ⟨rfl, g1, g2, g3, g4⟩, fun h9 => absurd hV h9⟩
            · skip
              have c38 := if01_z er35 c38
              refine lv_iconst (v := 0) hx hb dX9_kind_41 (by decide) ?_
              refine W.zret (v := 0) hx hb hr (by decide) (fun t ht hW => ⟨⟨_, (ad, cap, I, J), rfl, ?_, by rw [ht]; exact hP, by show va_D (va_A (Wd y ad cap I J) s.heap.size) _; rw [hAe]; exact hD⟩, hS.F ht⟩) hS.2.2 dX9_kind_42
              refine ⟨I, rfl, fun h9 => absurd h9 (fun h8 => ?_), fun _ => ⟨rfl, rfl⟩⟩
              obtain ⟨g1, g2, g3⟩ := h8
              first | exact c7 g1 | exact c38 g3 | (rcases g2 with h | h | h | h; exact c12 h; exact c17 h; exact c22 h; exact c28 h)
set_option maxHeartbeats 4000000 in
set_option maxRecDepth 100000 in
theorem c_X9_branch (l : Launch) (D : va_G) (y : Nat → ClassId) (ad : Nat → Nat) (cap : Nat → Nat) (I : Nat → Nat → Int32) (J : Nat → Nat → Int64) (sz : Nat) {T : Nat → Nat → Nat} (hM : RM I T) (hW : WF T) (p1 p2 p3 p4 : Int32) : Met l yX9_branch [.code yX9_branch cX9_branch 5 (some .int)] ({ frames := 1, cells := 0, slots := 0, locals := 22 }) (va_Pc [.ref (ad 55), .int p1, .int p2, .int p3, .int p4] (PW D y (Wd y ad cap I J) sz)) (va_Qi (fun (r : Int32) (u : St4) => ∃ I', u = (ad, cap, I', J) ∧ (braV T p1 p2 p3 p4 → r = nI (T 0 2) ∧ RM I' (addB T p1.toNatClampNeg p2.toNatClampNeg p3.toNatClampNeg p4.toNatClampNeg) ∧ EqX [55, 61, 62, 63, 64] I I' ∧ EqF I I' ∧ I' 55 19 = 1) ∧ (¬ braV T p1 p2 p3 p4 → r = -1 ∧ I' = I)) (Aft D (Wt y) (Wd y ad cap I J) sz) (va_A (Wd y ad cap I J) sz)) 0 0 (va_A (Wd y ad cap I J) sz) := by
  refine Met.ofW (cc := cX9_branch) (maxL := 5) (ret := (some .int)) (by decide) rfl ?_
  intro p e s m args below meth c s₁ B hml hv
  obtain ⟨rfl, rfl, hP, hD0, hO⟩ := hv
  have hx := B.exec
  have hb := B.bytes
  have hr := B.returns
  have hown : s.vm.findClass RX9 = some m.cls := findClass_of_methodNamed B.named
  have hlocks := B.notSynchronized
  have hK := hO.1
  have hts : ∀ w ∈ lw_E, w.before ([.ref (ad 55), .int p1, .int p2, .int p3, .int p4] : List Value).toArray s = true := fun w h => hO.2 w h _
  clear B
  have hD := hD0.self (sz := s.heap.size)
  generalize hAe : va_A (Wd y ad cap I J) s.heap.size = A at hD ⊢
  have hA : ∀ q : Nat, s.heap.size ≤ q → A q := fun q h => by rw [← hAe]; exact Or.inr h
  have hS : va_S A s.heap s.heap [] := va_S.rf
  have hl := lv_entry ([.ref (ad 55), .int p1, .int p2, .int p3, .int p4]) (n := 5) (Nat.le_of_ble_eq_true rfl)
  rw [lg_entry_eq]
  generalize (lg_sl ([.ref (ad 55), .int p1, .int p2, .int p3, .int p4]) ++ List.replicate (5 - (lg_sl ([.ref (ad 55), .int p1, .int p2, .int p3, .int p4])).length) Slot.unset).toArray = ls at hl ⊢
  have hl : lv_has ls 5 [(0, .ref (ad 55)), (1, .int p1), (2, .int p2), (3, .int p3), (4, .int p4)] := hl
  have hW0 := hW
  obtain ⟨⟨w1, w2, w3, w4, w5, w6, w7⟩, wS, wL, wB, wK, wTk, wT0⟩ := hW
  refine lv_aload_n hx hb dX9_branch_0 rfl (lv_at hl 0 rfl) ?_
  refine va_get (D := D) (T := TX9) (N := 51) hx hb hts jnX9 hown hK hP 55 (wd_55 y ad cap I J) rfl 2 (by decide) (hts _ fl_X9_124) (fun _ h9 => h9) rfl dX9_branch_1 ?_
  refine lv_topi (fun v1 ev1 => ?_)
  obtain rfl : v1 = (nI (T 0 2)) := by
    rw [ev1]; exact hM.1.2.2.1
  refine lv_sipush (v := 200) hx hb dX9_branch_4 (by decide) ?_
  refine lv_icmp_eq (tgt := 74) hx hb dX9_branch_7 (by decide) (fun c7 => ?_) (fun c7 => ?_)
  · skip
    have c7 := (nI_eq (a := (T 0 2)) (b := 200) (by omega) (by omega)).mp c7
    refine lv_iconst (v := (-1)) hx hb dX9_branch_74 (by decide) ?_
    refine W.iret (v := (-1)) hx hb hr (fun t ht hW => ⟨⟨_, (ad, cap, I, J), rfl, ?_, by rw [ht]; exact hP, by show va_D (va_A (Wd y ad cap I J) s.heap.size) _; rw [hAe]; exact hD⟩, hS.F ht⟩) hS.2.2 dX9_branch_75
    refine ⟨I, rfl, fun h9 => absurd h9 (fun h8 => ?_), fun _ => ⟨rfl, rfl⟩⟩
    obtain ⟨g1, g2, g3, g4, g5⟩ := h8
    first | omega | exact c21 g2 | (rw [s02] at g3; exact c37 ⟨g3.1, Int32.not_le.mpr g3.2⟩) | exact c47 g4.1 | exact c71 g5 | (have g6 := g4.2; rw [k02] at g6; exact g6 (stpN_z.mp ((nI_z (by omega)).mp c56)))
  · skip
    have c7 := mt (nI_eq (a := (T 0 2)) (b := 200) (by omega) (by omega)).mpr c7
    refine lv_iload_n hx hb dX9_branch_10 rfl (lv_at hl 1 rfl) ?_
    refine lv_iconst (v := 0) hx hb dX9_branch_11 (by decide) ?_
    refine lv_aload_n hx hb dX9_branch_12 rfl (lv_at hl 0 rfl) ?_
    refine va_get (D := D) (T := TX9) (N := 51) hx hb hts jnX9 hown hK hP 55 (wd_55 y ad cap I J) rfl 0 (by decide) (hts _ fl_X9_105) (fun _ h9 => h9) rfl dX9_branch_13 ?_
    refine lv_topi (fun v13 ev13 => ?_)
    obtain rfl : v13 = (nI (T 0 0)) := by
      rw [ev13]; exact hM.1.1
    refine lv_iconst (v := 1) hx hb dX9_branch_16 (by decide) ?_
    refine lv_isub hx hb dX9_branch_17 ?_
    refine lv_topi (fun v17 ev17 => ?_)
    refine rk_i (run_s (As := [.int p1, .int 0, .int v17]) (rest := []) hx hb hml hown hO.2 (c_X9_in l D y p1 0 v17) k_X9_in ml_X9_110 ⟨rfl, rfl⟩ ⟨Nat.le_of_ble_eq_true rfl, Nat.le_of_ble_eq_true rfl⟩ (pre_SR hO hP) rfl hl.1 rfl (Nat.le_of_ble_eq_true rfl) dX9_branch_18 ⟨(Nat.zero_le _), (Nat.zero_le _)⟩) (fun r18 er18 => ?_)
    try dsimp only at er18
    refine lv_if_eq (tgt := 74) hx hb dX9_branch_21 (by decide) (fun c21 => ?_) (fun c21 => ?_)
    · skip
      have c21 := if01_z er18 c21
      have c21 : ¬ (¬ p1 < 0 ∧ ¬ nI (T 0 0) ≤ p1) := fun h9 => c21 ((in_pred (by omega) ev17).mpr h9)
      refine lv_iconst (v := (-1)) hx hb dX9_branch_74 (by decide) ?_
      refine W.iret (v := (-1)) hx hb hr (fun t ht hW => ⟨⟨_, (ad, cap, I, J), rfl, ?_, by rw [ht]; exact hP, by show va_D (va_A (Wd y ad cap I J) s.heap.size) _; rw [hAe]; exact hD⟩, hS.F ht⟩) hS.2.2 dX9_branch_75
      refine ⟨I, rfl, fun h9 => absurd h9 (fun h8 => ?_), fun _ => ⟨rfl, rfl⟩⟩
      obtain ⟨g1, g2, g3, g4, g5⟩ := h8
      first | omega | exact c21 g2 | (rw [s02] at g3; exact c37 ⟨g3.1, Int32.not_le.mpr g3.2⟩) | exact c47 g4.1 | exact c71 g5 | (have g6 := g4.2; rw [k02] at g6; exact g6 (stpN_z.mp ((nI_z (by omega)).mp c56)))
    · skip
      have c21 := if01_n er18 c21
      have c21 := (in_pred (by omega) ev17).mp c21
      obtain ⟨s0, s01, hs0⟩ := ix_ok (n := T 0 0) (by omega) c21
      have s02 : p1.toNatClampNeg = s0 := by rw [s01]; exact nI_clamp (by omega)
      clear er18
      obtain ⟨g5, g6, g7⟩ := wS s0 hs0
      subst s01
      refine lv_iload_n hx hb dX9_branch_24 rfl (lv_at hl 2 rfl) ?_
      refine lv_iconst (v := 0) hx hb dX9_branch_25 (by decide) ?_
      refine lv_aload_n hx hb dX9_branch_26 rfl (lv_at hl 0 rfl) ?_
      refine va_get (D := D) (T := TX9) (N := 51) hx hb hts jnX9 hown hK hP 55 (wd_55 y ad cap I J) rfl 4 (by decide) (hts _ fl_X9_7) (fun _ h9 => h9) rfl dX9_branch_27 ?_
      refine lv_iload_n hx hb dX9_branch_30 rfl (lv_at hl 1 rfl) ?_
      refine va_iald (D := D) hx hb hK hP 56 0 (wd_56 y ad cap I J) rfl (vp_in_nI (by omega) (by omega)) dX9_branch_31 ?_
      rw [nI_clamp (n := s0) (by omega)]
      refine lv_topi (fun v31 ev31 => ?_)
      obtain rfl : v31 = (nI (T 1 s0)) := by
        rw [ev31]; exact (hM.2.1 _ (by omega)).1
      refine lv_iconst (v := 1) hx hb dX9_branch_32 (by decide) ?_
      refine lv_isub hx hb dX9_branch_33 ?_
      refine lv_topi (fun v33 ev33 => ?_)
      refine rk_i (run_s (As := [.int p2, .int 0, .int v33]) (rest := []) hx hb hml hown hO.2 (c_X9_in l D y p2 0 v33) k_X9_in ml_X9_110 ⟨rfl, rfl⟩ ⟨Nat.le_of_ble_eq_true rfl, Nat.le_of_ble_eq_true rfl⟩ (pre_SR hO hP) rfl hl.1 rfl (Nat.le_of_ble_eq_true rfl) dX9_branch_34 ⟨(Nat.zero_le _), (Nat.zero_le _)⟩) (fun r34 er34 => ?_)
      try dsimp only at er34
      refine lv_if_eq (tgt := 74) hx hb dX9_branch_37 (by decide) (fun c37 => ?_) (fun c37 => ?_)
      · skip
        have c37 := if01_z er34 c37
        have c37 : ¬ (¬ p2 < 0 ∧ ¬ nI (T 1 s0) ≤ p2) := fun h9 => c37 ((in_pred (by omega) ev33).mpr h9)
        refine lv_iconst (v := (-1)) hx hb dX9_branch_74 (by decide) ?_
        refine W.iret (v := (-1)) hx hb hr (fun t ht hW => ⟨⟨_, (ad, cap, I, J), rfl, ?_, by rw [ht]; exact hP, by show va_D (va_A (Wd y ad cap I J) s.heap.size) _; rw [hAe]; exact hD⟩, hS.F ht⟩) hS.2.2 dX9_branch_75
        refine ⟨I, rfl, fun h9 => absurd h9 (fun h8 => ?_), fun _ => ⟨rfl, rfl⟩⟩
        obtain ⟨g1, g2, g3, g4, g5⟩ := h8
        first | omega | exact c21 g2 | (rw [s02] at g3; exact c37 ⟨g3.1, Int32.not_le.mpr g3.2⟩) | exact c47 g4.1 | exact c71 g5 | (have g6 := g4.2; rw [k02] at g6; exact g6 (stpN_z.mp ((nI_z (by omega)).mp c56)))
      · skip
        have c37 := if01_n er34 c37
        have c37 := (in_pred (by omega) ev33).mp c37
        refine lv_iload_n hx hb dX9_branch_40 rfl (lv_at hl 3 rfl) ?_
        refine lv_iconst (v := 0) hx hb dX9_branch_41 (by decide) ?_
        refine lv_bipush (v := 7) hx hb dX9_branch_42 (by decide) ?_
        refine rk_i (run_s (As := [.int p3, .int 0, .int 7]) (rest := []) hx hb hml hown hO.2 (c_X9_in l D y p3 0 7) k_X9_in ml_X9_110 ⟨rfl, rfl⟩ ⟨Nat.le_of_ble_eq_true rfl, Nat.le_of_ble_eq_true rfl⟩ (pre_SR hO hP) rfl hl.1 rfl (Nat.le_of_ble_eq_true rfl) dX9_branch_44 ⟨(Nat.zero_le _), (Nat.zero_le _)⟩) (fun r44 er44 => ?_)
        try dsimp only at er44
        refine lv_if_eq (tgt := 74) hx hb dX9_branch_47 (by decide) (fun c47 => ?_) (fun c47 => ?_)
        · skip
          have c47 := if01_z er44 c47
          have c47 : ¬ (¬ p3 < 0 ∧ ¬ 8 ≤ p3) := fun h9 => c47 (in7.mpr h9)
          refine lv_iconst (v := (-1)) hx hb dX9_branch_74 (by decide) ?_
          refine W.iret (v := (-1)) hx hb hr (fun t ht hW => ⟨⟨_, (ad, cap, I, J), rfl, ?_, by rw [ht]; exact hP, by show va_D (va_A (Wd y ad cap I J) s.heap.size) _; rw [hAe]; exact hD⟩, hS.F ht⟩) hS.2.2 dX9_branch_75
          refine ⟨I, rfl, fun h9 => absurd h9 (fun h8 => ?_), fun _ => ⟨rfl, rfl⟩⟩
          obtain ⟨g1, g2, g3, g4, g5⟩ := h8
          first | omega | exact c21 g2 | (rw [s02] at g3; exact c37 ⟨g3.1, Int32.not_le.mpr g3.2⟩) | exact c47 g4.1 | exact c71 g5 | (have g6 := g4.2; rw [k02] at g6; exact g6 (stpN_z.mp ((nI_z (by omega)).mp c56)))
        · skip
          have c47 := if01_n er44 c47
          have c47 := in7.mp c47
          obtain ⟨k0, k01, hk0⟩ := ix_ok (n := 8) (by omega) c47
          have k02 : p3.toNatClampNeg = k0 := by rw [k01]; exact nI_clamp (by omega)
          have hsk := stpN_le hW0 hk0
          clear er44
          subst k01
          refine lv_aload_n hx hb dX9_branch_50 rfl (lv_at hl 0 rfl) ?_
          refine va_get (D := D) (T := TX9) (N := 51) hx hb hts jnX9 hown hK hP 55 (wd_55 y ad cap I J) rfl 13 (by decide) (hts _ fl_X9_38) (fun _ h9 => h9) rfl dX9_branch_51 ?_
          refine lv_iload_n hx hb dX9_branch_54 rfl (lv_at hl 3 rfl) ?_
          refine va_iald (D := D) hx hb hK hP 65 0 (wd_65 y ad cap I J) rfl (vp_in_nI (by omega) (by omega)) dX9_branch_55 ?_
          rw [nI_clamp (n := k0) (by omega)]
          refine lv_topi (fun v55 ev55 => ?_)
          obtain rfl : v55 = (nI (stpN T k0)) := by
            rw [ev55]; exact (hM.2.2.2.2 _ (by omega)).1
          refine lv_if_eq (tgt := 74) hx hb dX9_branch_56 (by decide) (fun c56 => ?_) (fun c56 => ?_)
          · skip
            refine lv_iconst (v := (-1)) hx hb dX9_branch_74 (by decide) ?_
            refine W.iret (v := (-1)) hx hb hr (fun t ht hW => ⟨⟨_, (ad, cap, I, J), rfl, ?_, by rw [ht]; exact hP, by show va_D (va_A (Wd y ad cap I J) s.heap.size) _; rw [hAe]; exact hD⟩, hS.F ht⟩) hS.2.2 dX9_branch_75
            refine ⟨I, rfl, fun h9 => absurd h9 (fun h8 => ?_), fun _ => ⟨rfl, rfl⟩⟩
            obtain ⟨g1, g2, g3, g4, g5⟩ := h8
            first | omega | exact c21 g2 | (rw [s02] at g3; exact c37 ⟨g3.1, Int32.not_le.mpr g3.2⟩) | exact c47 g4.1 | exact c71 g5 | (have g6 := g4.2; rw [k02] at g6; exact g6 (stpN_z.mp ((nI_z (by omega)).mp c56)))
          · skip
            refine lv_iload hx hb dX9_branch_59 (lv_at hl 4 rfl) ?_
            refine lv_iconst (v := 0) hx hb dX9_branch_61 (by decide) ?_
            refine lv_aload_n hx hb dX9_branch_62 rfl (lv_at hl 0 rfl) ?_
            refine va_get (D := D) (T := TX9) (N := 51) hx hb hts jnX9 hown hK hP 55 (wd_55 y ad cap I J) rfl 1 (by decide) (hts _ fl_X9_121) (fun _ h9 => h9) rfl dX9_branch_63 ?_
            refine lv_topi (fun v63 ev63 => ?_)
            obtain rfl : v63 = (nI (T 0 1)) := by
              rw [ev63]; exact hM.1.2.1
            refine lv_iconst (v := 1) hx hb dX9_branch_66 (by decide) ?_
            refine lv_isub hx hb dX9_branch_67 ?_
            refine lv_topi (fun v67 ev67 => ?_)
            refine rk_i (run_s (As := [.int p4, .int 0, .int v67]) (rest := []) hx hb hml hown hO.2 (c_X9_in l D y p4 0 v67) k_X9_in ml_X9_110 ⟨rfl, rfl⟩ ⟨Nat.le_of_ble_eq_true rfl, Nat.le_of_ble_eq_true rfl⟩ (pre_SR hO hP) rfl hl.1 rfl (Nat.le_of_ble_eq_true rfl) dX9_branch_68 ⟨(Nat.zero_le _), (Nat.zero_le _)⟩) (fun r68 er68 => ?_)
            try dsimp only at er68
            refine lv_if_ne (tgt := 76) hx hb dX9_branch_71 (by decide) (fun c71 => ?_) (fun c71 => ?_)
            · skip
              have c71 := if01_n er68 c71
              have c71 := (in_pred (by omega) ev67).mp c71
              obtain ⟨t0, t01, ht0⟩ := ix_ok (n := T 0 1) (by omega) c71
              have t02 : p4.toNatClampNeg = t0 := by rw [t01]; exact nI_clamp (by omega)
              have hkn : ¬ T 11 k0 = 0 := fun h9 => c56 (by rw [stpN_z.mpr h9]; rfl)
              have hV : braV T (nI s0) p2 (nI k0) p4 := ⟨by omega, c21, ⟨c37.1, by rw [s02]; exact Int32.not_le.mp c37.2⟩, ⟨c47, by rw [k02]; exact hkn⟩, c71⟩
              obtain ⟨f0, f1, hf0⟩ := ix_ok (n := T 1 s0) (by omega) c37
              have f2 : p2.toNatClampNeg = f0 := by rw [f1]; exact nI_clamp (by omega)
              try rw [s02]
              try rw [k02]
              try rw [t02]
              try rw [f2]
              clear er34 er68 c37 c71
              subst f1
              subst t01
              refine lv_aload_n hx hb dX9_branch_76 rfl (lv_at hl 0 rfl) ?_
              refine va_get (D := D) (T := TX9) (N := 51) hx hb hts jnX9 hown hK hP 55 (wd_55 y ad cap I J) rfl 9 (by decide) (hts _ fl_X9_26) (fun _ h9 => h9) rfl dX9_branch_77 ?_
              refine lv_aload_n hx hb dX9_branch_80 rfl (lv_at hl 0 rfl) ?_
              refine va_get (D := D) (T := TX9) (N := 51) hx hb hts jnX9 hown hK hP 55 (wd_55 y ad cap I J) rfl 2 (by decide) (hts _ fl_X9_124) (fun _ h9 => h9) rfl dX9_branch_81 ?_
              refine lv_topi (fun v81 ev81 => ?_)
              obtain rfl : v81 = (nI (T 0 2)) := by
                rw [ev81]; exact hM.1.2.2.1
              refine lv_iload_n hx hb dX9_branch_84 rfl (lv_at hl 1 rfl) ?_
              refine va_iast (D := D) hx hb hK hP hD hS 61 0 (wd_61 y ad cap I J) rfl (vp_in_nI (by omega) (by omega)) dX9_branch_85 (fun H locs hP hD hS => ?_)
              rw [nI_clamp (n := T 0 2) (by omega)] at hP hD
              rw [ws_61] at hP hD
              generalize eI85 : va_up I 61 (upd (I 61) (T 0 2) (nI s0)) = I85 at hP hD
              refine lv_aload_n hx hb dX9_branch_86 rfl (lv_at hl 0 rfl) ?_
              refine va_get (D := D) (T := TX9) (N := 51) hx hb hts jnX9 hown hK hP 55 (wd_55 y ad cap I85 J) rfl 10 (by decide) (hts _ fl_X9_29) (fun _ h9 => h9) rfl dX9_branch_87 ?_
              refine lv_aload_n hx hb dX9_branch_90 rfl (lv_at hl 0 rfl) ?_
              refine va_get (D := D) (T := TX9) (N := 51) hx hb hts jnX9 hown hK hP 55 (wd_55 y ad cap I85 J) rfl 2 (by decide) (hts _ fl_X9_124) (fun _ h9 => h9) rfl dX9_branch_91 ?_
              refine lv_topi (fun v91 ev91 => ?_)
              obtain rfl : v91 = (nI (T 0 2)) := by
                rw [ev91, ← eI85]; simpa [va_up, upd] using hM.1.2.2.1
              refine lv_iload_n hx hb dX9_branch_94 rfl (lv_at hl 2 rfl) ?_
              refine va_iast (D := D) hx hb hK hP hD hS 62 0 (wd_62 y ad cap I85 J) rfl (vp_in_nI (by omega) (by omega)) dX9_branch_95 (fun H locs hP hD hS => ?_)
              rw [nI_clamp (n := T 0 2) (by omega)] at hP hD
              rw [ws_62] at hP hD
              generalize eI95 : va_up I85 62 (upd (I85 62) (T 0 2) (nI f0)) = I95 at hP hD
              refine lv_aload_n hx hb dX9_branch_96 rfl (lv_at hl 0 rfl) ?_
              refine va_get (D := D) (T := TX9) (N := 51) hx hb hts jnX9 hown hK hP 55 (wd_55 y ad cap I95 J) rfl 11 (by decide) (hts _ fl_X9_32) (fun _ h9 => h9) rfl dX9_branch_97 ?_
              refine lv_aload_n hx hb dX9_branch_100 rfl (lv_at hl 0 rfl) ?_
              refine va_get (D := D) (T := TX9) (N := 51) hx hb hts jnX9 hown hK hP 55 (wd_55 y ad cap I95 J) rfl 2 (by decide) (hts _ fl_X9_124) (fun _ h9 => h9) rfl dX9_branch_101 ?_
              refine lv_topi (fun v101 ev101 => ?_)
              obtain rfl : v101 = (nI (T 0 2)) := by
                rw [ev101, ← eI95, ← eI85]; simpa [va_up, upd] using hM.1.2.2.1
              refine lv_iload_n hx hb dX9_branch_104 rfl (lv_at hl 3 rfl) ?_
              refine va_iast (D := D) hx hb hK hP hD hS 63 0 (wd_63 y ad cap I95 J) rfl (vp_in_nI (by omega) (by omega)) dX9_branch_105 (fun H locs hP hD hS => ?_)
              rw [nI_clamp (n := T 0 2) (by omega)] at hP hD
              rw [ws_63] at hP hD
              generalize eI105 : va_up I95 63 (upd (I95 63) (T 0 2) (nI k0)) = I105 at hP hD
              refine lv_aload_n hx hb dX9_branch_106 rfl (lv_at hl 0 rfl) ?_
              refine va_get (D := D) (T := TX9) (N := 51) hx hb hts jnX9 hown hK hP 55 (wd_55 y ad cap I105 J) rfl 12 (by decide) (hts _ fl_X9_35) (fun _ h9 => h9) rfl dX9_branch_107 ?_
              refine lv_aload_n hx hb dX9_branch_110 rfl (lv_at hl 0 rfl) ?_
              refine va_get (D := D) (T := TX9) (N := 51) hx hb hts jnX9 hown hK hP 55 (wd_55 y ad cap I105 J) rfl 2 (by decide) (hts _ fl_X9_124) (fun _ h9 => h9) rfl dX9_branch_111 ?_
              refine lv_topi (fun v111 ev111 => ?_)
              obtain rfl : v111 = (nI (T 0 2)) := by
                rw [ev111, ← eI105, ← eI95, ← eI85]; simpa [va_up, upd] using hM.1.2.2.1
              refine lv_iload hx hb dX9_branch_114 (lv_at hl 4 rfl) ?_
              refine va_iast (D := D) hx hb hK hP hD hS 64 0 (wd_64 y ad cap I105 J) rfl (vp_in_nI (by omega) (by omega)) dX9_branch_116 (fun H locs hP hD hS => ?_)
              rw [nI_clamp (n := T 0 2) (by omega)] at hP hD
              rw [ws_64] at hP hD
              generalize eI116 : va_up I105 64 (upd (I105 64) (T 0 2) (nI t0)) = I116 at hP hD
              refine lv_aload_n hx hb dX9_branch_117 rfl (lv_at hl 0 rfl) ?_
              refine lv_dup hx hb dX9_branch_118 rfl ?_
              refine va_get (D := D) (T := TX9) (N := 51) hx hb hts jnX9 hown hK hP 55 (wd_55 y ad cap I116 J) rfl 2 (by decide) (hts _ fl_X9_124) (fun _ h9 => h9) rfl dX9_branch_119 ?_
              refine lv_topi (fun v119 ev119 => ?_)
              obtain rfl : v119 = (nI (T 0 2)) := by
                rw [ev119, ← eI116, ← eI105, ← eI95, ← eI85]; simpa [va_up, upd] using hM.1.2.2.1
              refine lv_iconst (v := 1) hx hb dX9_branch_122 (by decide) ?_
              refine lv_iadd hx hb dX9_branch_123 ?_
              refine lv_topi (fun v123 ev123 => ?_)
              obtain rfl : v123 = (nI ((T 0 2) + 1)) := by rw [ev123, show (1 : Int32) = nI 1 from rfl, nI_add]
              refine va_put (D := D) (T := TX9) (N := 51) (v := .int (nI ((T 0 2) + 1))) (ty := .int) hx hb hts jnX9 tyX9 tyX9_ok nmX9 hown hK hP hD hS 55 (wd_55 y ad cap I116 J) rfl 2 (by decide) (hts _ fl_X9_124) (fun _ h9 => h9) rfl (by decide +kernel) rfl rfl (Nat.le_of_ble_eq_true rfl) dX9_branch_124 (fun H locs hP hD hS => ?_)
              rw [wp_55_2] at hP hD
              generalize eI124 : va_up I116 55 (upd (I116 55) 2 (nI ((T 0 2) + 1))) = I124 at hP hD
              refine lv_aload_n hx hb dX9_branch_127 rfl (lv_at hl 0 rfl) ?_
              refine lv_iconst (v := 1) hx hb dX9_branch_128 (by decide) ?_
              refine va_put (D := D) (T := TX9) (N := 51) (v := .int 1) (ty := .boolean) hx hb hts jnX9 tyX9 tyX9_ok nmX9 hown hK hP hD hS 55 (wd_55 y ad cap I124 J) rfl 19 (by decide) (hts _ fl_X9_117) (fun _ h9 => h9) rfl (by decide +kernel) rfl rfl (Nat.le_of_ble_eq_true rfl) dX9_branch_129 (fun H locs hP hD hS => ?_)
              rw [wp_55_19] at hP hD
              generalize eI129 : va_up I124 55 (upd (I124 55) 19 1) = I129 at hP hD
              refine lv_aload_n hx hb dX9_branch_132 rfl (lv_at hl 0 rfl) ?_
              refine va_get (D := D) (T := TX9) (N := 51) hx hb hts jnX9 hown hK hP 55 (wd_55 y ad cap I129 J) rfl 2 (by decide) (hts _ fl_X9_124) (fun _ h9 => h9) rfl dX9_branch_133 ?_
              refine lv_topi (fun v133 ev133 => ?_)
              obtain rfl : v133 = (nI (T 0 2 + 1)) := by
                rw [ev133, ← eI129, ← eI124]; simp [va_up, upd]
              refine lv_iconst (v := 1) hx hb dX9_branch_136 (by decide) ?_
              refine lv_isub hx hb dX9_branch_137 ?_
              refine lv_topi (fun v137 ev137 => ?_)
              obtain rfl : v137 = (nI (T 0 2)) := by
                rw [ev137, show (1 : Int32) = nI 1 from rfl, pk_sub (by omega)]; rfl
              refine W.iret (v := (nI (T 0 2))) hx hb hr (fun t ht hW => ⟨⟨_, (ad, cap, I129, J), rfl, ?_, by rw [ht]; exact hP, by show va_D (va_A (Wd y ad cap I J) s.heap.size) _; rw [hAe]; exact hD⟩, hS.F ht⟩) hS.2.2 dX9_branch_138
              obtain ⟨g1, g2, g3, g4⟩ := RM_addB (s := s0) (f := f0) (k := k0) (t := t0) hM eI85 eI95 eI105 eI116 eI124 eI129
              exact ⟨_, rfl, fun _ => ⟨rfl, g1, g2, g3, g4⟩, fun h9 => absurd hV h9⟩
            · skip
              have c71 := if01_z er68 c71
              have c71 : ¬ (¬ p4 < 0 ∧ ¬ nI (T 0 1) ≤ p4) := fun h9 => c71 ((in_pred (by omega) ev67).mpr h9)
              refine lv_iconst (v := (-1)) hx hb dX9_branch_74 (by decide) ?_
              refine W.iret (v := (-1)) hx hb hr (fun t ht hW => ⟨⟨_, (ad, cap, I, J), rfl, ?_, by rw [ht]; exact hP, by show va_D (va_A (Wd y ad cap I J) s.heap.size) _; rw [hAe]; exact hD⟩, hS.F ht⟩) hS.2.2 dX9_branch_75
              refine ⟨I, rfl, fun h9 => absurd h9 (fun h8 => ?_), fun _ => ⟨rfl, rfl⟩⟩
              obtain ⟨g1, g2, g3, g4, g5⟩ := h8
              first | omega | exact c21 g2 | (rw [s02] at g3; exact c37 ⟨g3.1, Int32.not_le.mpr g3.2⟩) | exact c47 g4.1 | exact c71 g5 | (have g6 := g4.2; rw [k02] at g6; exact g6 (stpN_z.mp ((nI_z (by omega)).mp c56)))
set_option maxHeartbeats 4000000 in
set_option maxRecDepth 100000 in
theorem c_X9_thunks (l : Launch) (D : va_G) (y : Nat → ClassId) (ad : Nat → Nat) (cap : Nat → Nat) (I : Nat → Nat → Int32) (J : Nat → Nat → Int64) (sz : Nat) {T : Nat → Nat → Nat} (hM : RM I T) (hW : WF T) (p1 p2 p3 : Int32) : Met l yX9_thunks [.code yX9_thunks cX9_thunks 4 (some .boolean)] ({ frames := 1, cells := 0, slots := 0, locals := 22 }) (va_Pc [.ref (ad 55), .int p1, .int p2, .int p3] (PW D y (Wd y ad cap I J) sz)) (va_Qi (fun (r : Int32) (u : St4) => ∃ I', u = (ad, cap, I', J) ∧ (thkV T p1 p2 p3 → r = 1 ∧ RM I' (addT T p1.toNatClampNeg p2.toNatClampNeg p3.toNatClampNeg) ∧ EqX [55] I I' ∧ EqF I I' ∧ I' 55 19 = 1) ∧ (¬ thkV T p1 p2 p3 → r = 0 ∧ I' = I)) (Aft D (Wt y) (Wd y ad cap I J) sz) (va_A (Wd y ad cap I J) sz)) 0 0 (va_A (Wd y ad cap I J) sz) := by
  refine Met.ofW (cc := cX9_thunks) (maxL := 4) (ret := (some .boolean)) (by decide) rfl ?_
  intro p e s m args below meth c s₁ B hml hv
  obtain ⟨rfl, rfl, hP, hD0, hO⟩ := hv
  have hx := B.exec
  have hb := B.bytes
  have hr := B.returns
  have hown : s.vm.findClass RX9 = some m.cls := findClass_of_methodNamed B.named
  have hlocks := B.notSynchronized
  have hK := hO.1
  have hts : ∀ w ∈ lw_E, w.before ([.ref (ad 55), .int p1, .int p2, .int p3] : List Value).toArray s = true := fun w h => hO.2 w h _
  clear B
  have hD := hD0.self (sz := s.heap.size)
  generalize hAe : va_A (Wd y ad cap I J) s.heap.size = A at hD ⊢
  have hA : ∀ q : Nat, s.heap.size ≤ q → A q := fun q h => by rw [← hAe]; exact Or.inr h
  have hS : va_S A s.heap s.heap [] := va_S.rf
  have hl := lv_entry ([.ref (ad 55), .int p1, .int p2, .int p3]) (n := 4) (Nat.le_of_ble_eq_true rfl)
  rw [lg_entry_eq]
  generalize (lg_sl ([.ref (ad 55), .int p1, .int p2, .int p3]) ++ List.replicate (4 - (lg_sl ([.ref (ad 55), .int p1, .int p2, .int p3])).length) Slot.unset).toArray = ls at hl ⊢
  have hl : lv_has ls 4 [(0, .ref (ad 55)), (1, .int p1), (2, .int p2), (3, .int p3)] := hl
  have hW0 := hW
  obtain ⟨⟨w1, w2, w3, w4, w5, w6, w7⟩, wS, wL, wB, wK, wTk, wT0⟩ := hW
  refine lv_iload_n hx hb dX9_thunks_0 rfl (lv_at hl 1 rfl) ?_
  refine lv_iconst (v := 1) hx hb dX9_thunks_1 (by decide) ?_
  refine lv_bipush (v := 64) hx hb dX9_thunks_2 (by decide) ?_
  refine rk_i (run_s (As := [.int p1, .int 1, .int 64]) (rest := []) hx hb hml hown hO.2 (c_X9_in l D y p1 1 64) k_X9_in ml_X9_110 ⟨rfl, rfl⟩ ⟨Nat.le_of_ble_eq_true rfl, Nat.le_of_ble_eq_true rfl⟩ (pre_SR hO hP) rfl hl.1 rfl (Nat.le_of_ble_eq_true rfl) dX9_thunks_4 ⟨(Nat.zero_le _), (Nat.zero_le _)⟩) (fun r4 er4 => ?_)
  try dsimp only at er4
  refine lv_if_eq (tgt := 39) hx hb dX9_thunks_7 (by decide) (fun c7 => ?_) (fun c7 => ?_)
  · skip
    have c7 := if01_z er4 c7
    refine lv_iconst (v := 0) hx hb dX9_thunks_39 (by decide) ?_
    refine W.zret (v := 0) hx hb hr (by decide) (fun t ht hW => ⟨⟨_, (ad, cap, I, J), rfl, ?_, by rw [ht]; exact hP, by show va_D (va_A (Wd y ad cap I J) s.heap.size) _; rw [hAe]; exact hD⟩, hS.F ht⟩) hS.2.2 dX9_thunks_40
    refine ⟨I, rfl, fun h9 => absurd h9 (fun h8 => ?_), fun _ => ⟨rfl, rfl⟩⟩
    obtain ⟨g1, g2, g4⟩ := h8
    first | exact c7 g1 | exact c17 g2 | exact c27 g4.1 | (have g6 := g4.2; rw [k02] at g6; exact g6 (stpN_z.mp ((nI_z (by omega)).mp c36)))
  · skip
    have c7 := if01_n er4 c7
    refine lv_iload_n hx hb dX9_thunks_10 rfl (lv_at hl 2 rfl) ?_
    refine lv_iconst (v := 0) hx hb dX9_thunks_11 (by decide) ?_
    refine lv_bipush (v := 6) hx hb dX9_thunks_12 (by decide) ?_
    refine rk_i (run_s (As := [.int p2, .int 0, .int 6]) (rest := []) hx hb hml hown hO.2 (c_X9_in l D y p2 0 6) k_X9_in ml_X9_110 ⟨rfl, rfl⟩ ⟨Nat.le_of_ble_eq_true rfl, Nat.le_of_ble_eq_true rfl⟩ (pre_SR hO hP) rfl hl.1 rfl (Nat.le_of_ble_eq_true rfl) dX9_thunks_14 ⟨(Nat.zero_le _), (Nat.zero_le _)⟩) (fun r14 er14 => ?_)
    try dsimp only at er14
    refine lv_if_eq (tgt := 39) hx hb dX9_thunks_17 (by decide) (fun c17 => ?_) (fun c17 => ?_)
    · skip
      have c17 := if01_z er14 c17
      refine lv_iconst (v := 0) hx hb dX9_thunks_39 (by decide) ?_
      refine W.zret (v := 0) hx hb hr (by decide) (fun t ht hW => ⟨⟨_, (ad, cap, I, J), rfl, ?_, by rw [ht]; exact hP, by show va_D (va_A (Wd y ad cap I J) s.heap.size) _; rw [hAe]; exact hD⟩, hS.F ht⟩) hS.2.2 dX9_thunks_40
      refine ⟨I, rfl, fun h9 => absurd h9 (fun h8 => ?_), fun _ => ⟨rfl, rfl⟩⟩
      obtain ⟨g1, g2, g4⟩ := h8
      first | exact c7 g1 | exact c17 g2 | exact c27 g4.1 | (have g6 := g4.2; rw [k02] at g6; exact g6 (stpN_z.mp ((nI_z (by omega)).mp c36)))
    · skip
      have c17 := if01_n er14 c17
      refine lv_iload_n hx hb dX9_thunks_20 rfl (lv_at hl 3 rfl) ?_
      refine lv_iconst (v := 0) hx hb dX9_thunks_21 (by decide) ?_
      refine lv_bipush (v := 7) hx hb dX9_thunks_22 (by decide) ?_
      refine rk_i (run_s (As := [.int p3, .int 0, .int 7]) (rest := []) hx hb hml hown hO.2 (c_X9_in l D y p3 0 7) k_X9_in ml_X9_110 ⟨rfl, rfl⟩ ⟨Nat.le_of_ble_eq_true rfl, Nat.le_of_ble_eq_true rfl⟩ (pre_SR hO hP) rfl hl.1 rfl (Nat.le_of_ble_eq_true rfl) dX9_thunks_24 ⟨(Nat.zero_le _), (Nat.zero_le _)⟩) (fun r24 er24 => ?_)
      try dsimp only at er24
      refine lv_if_eq (tgt := 39) hx hb dX9_thunks_27 (by decide) (fun c27 => ?_) (fun c27 => ?_)
      · skip
        have c27 := if01_z er24 c27
        have c27 : ¬ (¬ p3 < 0 ∧ ¬ 8 ≤ p3) := fun h9 => c27 (in7.mpr h9)
        refine lv_iconst (v := 0) hx hb dX9_thunks_39 (by decide) ?_
        refine W.zret (v := 0) hx hb hr (by decide) (fun t ht hW => ⟨⟨_, (ad, cap, I, J), rfl, ?_, by rw [ht]; exact hP, by show va_D (va_A (Wd y ad cap I J) s.heap.size) _; rw [hAe]; exact hD⟩, hS.F ht⟩) hS.2.2 dX9_thunks_40
        refine ⟨I, rfl, fun h9 => absurd h9 (fun h8 => ?_), fun _ => ⟨rfl, rfl⟩⟩
        obtain ⟨g1, g2, g4⟩ := h8
        first | exact c7 g1 | exact c17 g2 | exact c27 g4.1 | (have g6 := g4.2; rw [k02] at g6; exact g6 (stpN_z.mp ((nI_z (by omega)).mp c36)))
      · skip
        have c27 := if01_n er24 c27
        have c27 := in7.mp c27
        obtain ⟨k0, k01, hk0⟩ := ix_ok (n := 8) (by omega) c27
        have k02 : p3.toNatClampNeg = k0 := by rw [k01]; exact nI_clamp (by omega)
        have hsk := stpN_le hW0 hk0
        clear er24
        subst k01
        refine lv_aload_n hx hb dX9_thunks_30 rfl (lv_at hl 0 rfl) ?_
        refine va_get (D := D) (T := TX9) (N := 51) hx hb hts jnX9 hown hK hP 55 (wd_55 y ad cap I J) rfl 13 (by decide) (hts _ fl_X9_38) (fun _ h9 => h9) rfl dX9_thunks_31 ?_
        refine lv_iload_n hx hb dX9_thunks_34 rfl (lv_at hl 3 rfl) ?_
        refine va_iald (D := D) hx hb hK hP 65 0 (wd_65 y ad cap I J) rfl (vp_in_nI (by omega) (by omega)) dX9_thunks_35 ?_
        rw [nI_clamp (n := k0) (by omega)]
        refine lv_topi (fun v35 ev35 => ?_)
        obtain rfl : v35 = (nI (stpN T k0)) := by
          rw [ev35]; exact (hM.2.2.2.2 _ (by omega)).1
        refine lv_if_ne (tgt := 41) hx hb dX9_thunks_36 (by decide) (fun c36 => ?_) (fun c36 => ?_)
        · skip
          have hkn : ¬ T 11 k0 = 0 := fun h9 => c36 (by rw [stpN_z.mpr h9]; rfl)
          have hV : thkV T p1 p2 (nI k0) := ⟨c7, c17, ⟨c27, by rw [k02]; exact hkn⟩⟩
          obtain ⟨a1, ha⟩ := inR_nat (v := p1) (n := 64) rfl ⟨fun h9 => c7.1 (by rw [Int32.lt_iff_toInt_lt] at *; have h7 : (0 : Int32).toInt = 0 := rfl; have h8 : (1 : Int32).toInt = 1 := rfl; omega), c7.2⟩
          obtain ⟨k1, hk⟩ := inR_nat (n := 6) rfl c17
          try rw [k02]
          generalize p1.toNatClampNeg = a at a1 ha ⊢
          generalize p2.toNatClampNeg = k at k1 hk ⊢
          clear er4 er14 c7 c17
          subst a1
          subst k1
          refine lv_aload_n hx hb dX9_thunks_41 rfl (lv_at hl 0 rfl) ?_
          refine lv_iload_n hx hb dX9_thunks_42 rfl (lv_at hl 1 rfl) ?_
          refine va_put (D := D) (T := TX9) (N := 51) (v := .int (nI a)) (ty := .int) hx hb hts jnX9 tyX9 tyX9_ok nmX9 hown hK hP hD hS 55 (wd_55 y ad cap I J) rfl 15 (by decide) (hts _ fl_X9_127) (fun _ h9 => h9) rfl (by decide +kernel) rfl rfl (Nat.le_of_ble_eq_true rfl) dX9_thunks_43 (fun H locs hP hD hS => ?_)
          rw [wp_55_15] at hP hD
          generalize eI43 : va_up I 55 (upd (I 55) 15 (nI a)) = I43 at hP hD
          refine lv_aload_n hx hb dX9_thunks_46 rfl (lv_at hl 0 rfl) ?_
          refine lv_iload_n hx hb dX9_thunks_47 rfl (lv_at hl 2 rfl) ?_
          refine va_put (D := D) (T := TX9) (N := 51) (v := .int (nI k)) (ty := .int) hx hb hts jnX9 tyX9 tyX9_ok nmX9 hown hK hP hD hS 55 (wd_55 y ad cap I43 J) rfl 16 (by decide) (hts _ fl_X9_130) (fun _ h9 => h9) rfl (by decide +kernel) rfl rfl (Nat.le_of_ble_eq_true rfl) dX9_thunks_48 (fun H locs hP hD hS => ?_)
          rw [wp_55_16] at hP hD
          generalize eI48 : va_up I43 55 (upd (I43 55) 16 (nI k)) = I48 at hP hD
          refine lv_aload_n hx hb dX9_thunks_51 rfl (lv_at hl 0 rfl) ?_
          refine lv_iload_n hx hb dX9_thunks_52 rfl (lv_at hl 3 rfl) ?_
          refine va_put (D := D) (T := TX9) (N := 51) (v := .int (nI k0)) (ty := .int) hx hb hts jnX9 tyX9 tyX9_ok nmX9 hown hK hP hD hS 55 (wd_55 y ad cap I48 J) rfl 17 (by decide) (hts _ fl_X9_133) (fun _ h9 => h9) rfl (by decide +kernel) rfl rfl (Nat.le_of_ble_eq_true rfl) dX9_thunks_53 (fun H locs hP hD hS => ?_)
          rw [wp_55_17] at hP hD
          generalize eI53 : va_up I48 55 (upd (I48 55) 17 (nI k0)) = I53 at hP hD
          refine lv_aload_n hx hb dX9_thunks_56 rfl (lv_at hl 0 rfl) ?_
          refine lv_iconst (v := 1) hx hb dX9_thunks_57 (by decide) ?_
          refine va_put (D := D) (T := TX9) (N := 51) (v := .int 1) (ty := .boolean) hx hb hts jnX9 tyX9 tyX9_ok nmX9 hown hK hP hD hS 55 (wd_55 y ad cap I53 J) rfl 19 (by decide) (hts _ fl_X9_117) (fun _ h9 => h9) rfl (by decide +kernel) rfl rfl (Nat.le_of_ble_eq_true rfl) dX9_thunks_58 (fun H locs hP hD hS => ?_)
          rw [wp_55_19] at hP hD
          generalize eI58 : va_up I53 55 (upd (I53 55) 19 1) = I58 at hP hD
          refine lv_iconst (v := 1) hx hb dX9_thunks_61 (by decide) ?_
          refine W.zret (v := 1) hx hb hr (by decide) (fun t ht hW => ⟨⟨_, (ad, cap, I58, J), rfl, ?_, by rw [ht]; exact hP, by show va_D (va_A (Wd y ad cap I J) s.heap.size) _; rw [hAe]; exact hD⟩, hS.F ht⟩) hS.2.2 dX9_thunks_62
          obtain ⟨g1, g2, g3, g4⟩ := RM_addT (s := a) (a := k) (k := k0) hM eI43 eI48 eI53 eI58
          exact ⟨_, rfl, fun _ => ⟨rfl, g1, g2, g3, g4⟩, fun h9 => absurd hV h9⟩
        · skip
          refine lv_iconst (v := 0) hx hb dX9_thunks_39 (by decide) ?_
          refine W.zret (v := 0) hx hb hr (by decide) (fun t ht hW => ⟨⟨_, (ad, cap, I, J), rfl, ?_, by rw [ht]; exact hP, by show va_D (va_A (Wd y ad cap I J) s.heap.size) _; rw [hAe]; exact hD⟩, hS.F ht⟩) hS.2.2 dX9_thunks_40
          refine ⟨I, rfl, fun h9 => absurd h9 (fun h8 => ?_), fun _ => ⟨rfl, rfl⟩⟩
          obtain ⟨g1, g2, g4⟩ := h8
          first | exact c7 g1 | exact c17 g2 | exact c27 g4.1 | (have g6 := g4.2; rw [k02] at g6; exact g6 (stpN_z.mp ((nI_z (by omega)).mp c36)))
set_option maxHeartbeats 4000000 in
set_option maxRecDepth 100000 in
theorem c_X9_base (l : Launch) (D : va_G) (y : Nat → ClassId) (ad : Nat → Nat) (cap : Nat → Nat) (I : Nat → Nat → Int32) (J : Nat → Nat → Int64) (sz : Nat) {T : Nat → Nat → Nat} (hM : RM I T) (hW : WF T) (p1 : Int32) : Met l yX9_base [.code yX9_base cX9_base 2 (some .boolean)] ({ frames := 0, cells := 0, slots := 0, locals := 0 }) (va_Pc [.ref (ad 55), .int p1] (PW D y (Wd y ad cap I J) sz)) (va_Qi (fun (r : Int32) (u : St4) => ∃ I', u = (ad, cap, I', J) ∧ (¬ p1 < 0 → r = 1 ∧ RM I' (addA T p1.toNatClampNeg) ∧ EqX [55] I I' ∧ EqF I I' ∧ I' 55 19 = 1) ∧ (¬ ¬ p1 < 0 → r = 0 ∧ I' = I)) (Aft D (Wt y) (Wd y ad cap I J) sz) (va_A (Wd y ad cap I J) sz)) 0 0 (va_A (Wd y ad cap I J) sz) := by
  refine Met.ofW (cc := cX9_base) (maxL := 2) (ret := (some .boolean)) (by decide) rfl ?_
  intro p e s m args below meth c s₁ B hml hv
  obtain ⟨rfl, rfl, hP, hD0, hO⟩ := hv
  have hx := B.exec
  have hb := B.bytes
  have hr := B.returns
  have hown : s.vm.findClass RX9 = some m.cls := findClass_of_methodNamed B.named
  have hlocks := B.notSynchronized
  have hK := hO.1
  have hts : ∀ w ∈ lw_E, w.before ([.ref (ad 55), .int p1] : List Value).toArray s = true := fun w h => hO.2 w h _
  clear B
  have hD := hD0.self (sz := s.heap.size)
  generalize hAe : va_A (Wd y ad cap I J) s.heap.size = A at hD ⊢
  have hA : ∀ q : Nat, s.heap.size ≤ q → A q := fun q h => by rw [← hAe]; exact Or.inr h
  have hS : va_S A s.heap s.heap [] := va_S.rf
  have hl := lv_entry ([.ref (ad 55), .int p1]) (n := 2) (Nat.le_of_ble_eq_true rfl)
  rw [lg_entry_eq]
  generalize (lg_sl ([.ref (ad 55), .int p1]) ++ List.replicate (2 - (lg_sl ([.ref (ad 55), .int p1])).length) Slot.unset).toArray = ls at hl ⊢
  have hl : lv_has ls 2 [(0, .ref (ad 55)), (1, .int p1)] := hl
  have hW0 := hW
  obtain ⟨⟨w1, w2, w3, w4, w5, w6, w7⟩, wS, wL, wB, wK, wTk, wT0⟩ := hW
  refine lv_iload_n hx hb dX9_base_0 rfl (lv_at hl 1 rfl) ?_
  refine lv_if_ge (tgt := 6) hx hb dX9_base_1 (by decide) (fun c1 => ?_) (fun c1 => ?_)
  · skip
    have hV : ¬ p1 < 0 := Int32.not_lt.mpr c1
    obtain ⟨a, ha, a1⟩ := nI_of hV
    have a2 : p1.toNatClampNeg = a := by rw [a1]; exact nI_clamp (by omega)
    rw [a2]
    subst a1
    refine lv_aload_n hx hb dX9_base_6 rfl (lv_at hl 0 rfl) ?_
    refine lv_iload_n hx hb dX9_base_7 rfl (lv_at hl 1 rfl) ?_
    refine va_put (D := D) (T := TX9) (N := 51) (v := .int (nI a)) (ty := .int) hx hb hts jnX9 tyX9 tyX9_ok nmX9 hown hK hP hD hS 55 (wd_55 y ad cap I J) rfl 18 (by decide) (hts _ fl_X9_136) (fun _ h9 => h9) rfl (by decide +kernel) rfl rfl (Nat.le_of_ble_eq_true rfl) dX9_base_8 (fun H locs hP hD hS => ?_)
    rw [wp_55_18] at hP hD
    generalize eI8 : va_up I 55 (upd (I 55) 18 (nI a)) = I8 at hP hD
    refine lv_aload_n hx hb dX9_base_11 rfl (lv_at hl 0 rfl) ?_
    refine lv_iconst (v := 1) hx hb dX9_base_12 (by decide) ?_
    refine va_put (D := D) (T := TX9) (N := 51) (v := .int 1) (ty := .boolean) hx hb hts jnX9 tyX9 tyX9_ok nmX9 hown hK hP hD hS 55 (wd_55 y ad cap I8 J) rfl 19 (by decide) (hts _ fl_X9_117) (fun _ h9 => h9) rfl (by decide +kernel) rfl rfl (Nat.le_of_ble_eq_true rfl) dX9_base_13 (fun H locs hP hD hS => ?_)
    rw [wp_55_19] at hP hD
    generalize eI13 : va_up I8 55 (upd (I8 55) 19 1) = I13 at hP hD
    refine lv_iconst (v := 1) hx hb dX9_base_16 (by decide) ?_
    refine W.zret (v := 1) hx hb hr (by decide) (fun t ht hW => ⟨⟨_, (ad, cap, I13, J), rfl, ?_, by rw [ht]; exact hP, by show va_D (va_A (Wd y ad cap I J) s.heap.size) _; rw [hAe]; exact hD⟩, hS.F ht⟩) hS.2.2 dX9_base_17
    obtain ⟨g1, g2, g3, g4⟩ := RM_addA (a := a) hM eI8 eI13
    exact ⟨_, rfl, fun _ => ⟨rfl, g1, g2, g3, g4⟩, fun h9 => absurd hV h9⟩
  · skip
    refine lv_iconst (v := 0) hx hb dX9_base_4 (by decide) ?_
    refine W.zret (v := 0) hx hb hr (by decide) (fun t ht hW => ⟨⟨_, (ad, cap, I, J), rfl, ?_, by rw [ht]; exact hP, by show va_D (va_A (Wd y ad cap I J) s.heap.size) _; rw [hAe]; exact hD⟩, hS.F ht⟩) hS.2.2 dX9_base_5
    exact ⟨I, rfl, fun h9 => absurd (Int32.not_lt.mp h9) c1, fun _ => ⟨rfl, rfl⟩⟩
set_option maxHeartbeats 4000000 in
set_option maxRecDepth 100000 in
theorem c_X9_retarget (l : Launch) (D : va_G) (y : Nat → ClassId) (ad : Nat → Nat) (cap : Nat → Nat) (I : Nat → Nat → Int32) (J : Nat → Nat → Int64) (sz : Nat) {T : Nat → Nat → Nat} (hM : RM I T) (hW : WF T) (p1 p2 : Int32) : Met l yX9_retarget [.code yX9_retarget cX9_retarget 3 (some .boolean)] ({ frames := 1, cells := 0, slots := 0, locals := 22 }) (va_Pc [.ref (ad 55), .int p1, .int p2] (PW D y (Wd y ad cap I J) sz)) (va_Qi (fun (r : Int32) (u : St4) => ∃ I', u = (ad, cap, I', J) ∧ (rtgV T p1 p2 → r = 1 ∧ RM I' (setB T p1.toNatClampNeg p2.toNatClampNeg) ∧ EqX [55, 64] I I' ∧ EqF I I' ∧ I' 55 19 = 1) ∧ (¬ rtgV T p1 p2 → r = 0 ∧ I' = I)) (Aft D (Wt y) (Wd y ad cap I J) sz) (va_A (Wd y ad cap I J) sz)) 0 0 (va_A (Wd y ad cap I J) sz) := by
  refine Met.ofW (cc := cX9_retarget) (maxL := 3) (ret := (some .boolean)) (by decide) rfl ?_
  intro p e s m args below meth c s₁ B hml hv
  obtain ⟨rfl, rfl, hP, hD0, hO⟩ := hv
  have hx := B.exec
  have hb := B.bytes
  have hr := B.returns
  have hown : s.vm.findClass RX9 = some m.cls := findClass_of_methodNamed B.named
  have hlocks := B.notSynchronized
  have hK := hO.1
  have hts : ∀ w ∈ lw_E, w.before ([.ref (ad 55), .int p1, .int p2] : List Value).toArray s = true := fun w h => hO.2 w h _
  clear B
  have hD := hD0.self (sz := s.heap.size)
  generalize hAe : va_A (Wd y ad cap I J) s.heap.size = A at hD ⊢
  have hA : ∀ q : Nat, s.heap.size ≤ q → A q := fun q h => by rw [← hAe]; exact Or.inr h
  have hS : va_S A s.heap s.heap [] := va_S.rf
  have hl := lv_entry ([.ref (ad 55), .int p1, .int p2]) (n := 3) (Nat.le_of_ble_eq_true rfl)
  rw [lg_entry_eq]
  generalize (lg_sl ([.ref (ad 55), .int p1, .int p2]) ++ List.replicate (3 - (lg_sl ([.ref (ad 55), .int p1, .int p2])).length) Slot.unset).toArray = ls at hl ⊢
  have hl : lv_has ls 3 [(0, .ref (ad 55)), (1, .int p1), (2, .int p2)] := hl
  have hW0 := hW
  obtain ⟨⟨w1, w2, w3, w4, w5, w6, w7⟩, wS, wL, wB, wK, wTk, wT0⟩ := hW
  refine lv_iload_n hx hb dX9_retarget_0 rfl (lv_at hl 1 rfl) ?_
  refine lv_iconst (v := 0) hx hb dX9_retarget_1 (by decide) ?_
  refine lv_aload_n hx hb dX9_retarget_2 rfl (lv_at hl 0 rfl) ?_
  refine va_get (D := D) (T := TX9) (N := 51) hx hb hts jnX9 hown hK hP 55 (wd_55 y ad cap I J) rfl 2 (by decide) (hts _ fl_X9_124) (fun _ h9 => h9) rfl dX9_retarget_3 ?_
  refine lv_topi (fun v3 ev3 => ?_)
  obtain rfl : v3 = (nI (T 0 2)) := by
    rw [ev3]; exact hM.1.2.2.1
  refine lv_iconst (v := 1) hx hb dX9_retarget_6 (by decide) ?_
  refine lv_isub hx hb dX9_retarget_7 ?_
  refine lv_topi (fun v7 ev7 => ?_)
  refine rk_i (run_s (As := [.int p1, .int 0, .int v7]) (rest := []) hx hb hml hown hO.2 (c_X9_in l D y p1 0 v7) k_X9_in ml_X9_110 ⟨rfl, rfl⟩ ⟨Nat.le_of_ble_eq_true rfl, Nat.le_of_ble_eq_true rfl⟩ (pre_SR hO hP) rfl hl.1 rfl (Nat.le_of_ble_eq_true rfl) dX9_retarget_8 ⟨(Nat.zero_le _), (Nat.zero_le _)⟩) (fun r8 er8 => ?_)
  try dsimp only at er8
  refine lv_if_eq (tgt := 28) hx hb dX9_retarget_11 (by decide) (fun c11 => ?_) (fun c11 => ?_)
  · skip
    have c11 := if01_z er8 c11
    have c11 : ¬ (¬ p1 < 0 ∧ ¬ nI (T 0 2) ≤ p1) := fun h9 => c11 ((in_pred (by omega) ev7).mpr h9)
    refine lv_iconst (v := 0) hx hb dX9_retarget_28 (by decide) ?_
    refine W.zret (v := 0) hx hb hr (by decide) (fun t ht hW => ⟨⟨_, (ad, cap, I, J), rfl, ?_, by rw [ht]; exact hP, by show va_D (va_A (Wd y ad cap I J) s.heap.size) _; rw [hAe]; exact hD⟩, hS.F ht⟩) hS.2.2 dX9_retarget_29
    refine ⟨I, rfl, fun h9 => absurd h9 (fun h8 => ?_), fun _ => ⟨rfl, rfl⟩⟩
    obtain ⟨g1, g2⟩ := h8
    first | exact c11 g1 | exact c25 g2
  · skip
    have c11 := if01_n er8 c11
    have c11 := (in_pred (by omega) ev7).mp c11
    refine lv_iload_n hx hb dX9_retarget_14 rfl (lv_at hl 2 rfl) ?_
    refine lv_iconst (v := 0) hx hb dX9_retarget_15 (by decide) ?_
    refine lv_aload_n hx hb dX9_retarget_16 rfl (lv_at hl 0 rfl) ?_
    refine va_get (D := D) (T := TX9) (N := 51) hx hb hts jnX9 hown hK hP 55 (wd_55 y ad cap I J) rfl 1 (by decide) (hts _ fl_X9_121) (fun _ h9 => h9) rfl dX9_retarget_17 ?_
    refine lv_topi (fun v17 ev17 => ?_)
    obtain rfl : v17 = (nI (T 0 1)) := by
      rw [ev17]; exact hM.1.2.1
    refine lv_iconst (v := 1) hx hb dX9_retarget_20 (by decide) ?_
    refine lv_isub hx hb dX9_retarget_21 ?_
    refine lv_topi (fun v21 ev21 => ?_)
    refine rk_i (run_s (As := [.int p2, .int 0, .int v21]) (rest := []) hx hb hml hown hO.2 (c_X9_in l D y p2 0 v21) k_X9_in ml_X9_110 ⟨rfl, rfl⟩ ⟨Nat.le_of_ble_eq_true rfl, Nat.le_of_ble_eq_true rfl⟩ (pre_SR hO hP) rfl hl.1 rfl (Nat.le_of_ble_eq_true rfl) dX9_retarget_22 ⟨(Nat.zero_le _), (Nat.zero_le _)⟩) (fun r22 er22 => ?_)
    try dsimp only at er22
    refine lv_if_ne (tgt := 30) hx hb dX9_retarget_25 (by decide) (fun c25 => ?_) (fun c25 => ?_)
    · skip
      have c25 := if01_n er22 c25
      have c25 := (in_pred (by omega) ev21).mp c25
      have hV : rtgV T p1 p2 := ⟨c11, c25⟩
      obtain ⟨b0, b01, hb0⟩ := ix_ok (n := T 0 2) (by omega) c11
      have b02 : p1.toNatClampNeg = b0 := by rw [b01]; exact nI_clamp (by omega)
      obtain ⟨t0, t01, ht0⟩ := ix_ok (n := T 0 1) (by omega) c25
      have t02 : p2.toNatClampNeg = t0 := by rw [t01]; exact nI_clamp (by omega)
      rw [b02, t02]
      clear er8 er22
      subst b01
      subst t01
      refine lv_aload_n hx hb dX9_retarget_30 rfl (lv_at hl 0 rfl) ?_
      refine va_get (D := D) (T := TX9) (N := 51) hx hb hts jnX9 hown hK hP 55 (wd_55 y ad cap I J) rfl 12 (by decide) (hts _ fl_X9_35) (fun _ h9 => h9) rfl dX9_retarget_31 ?_
      refine lv_iload_n hx hb dX9_retarget_34 rfl (lv_at hl 1 rfl) ?_
      refine lv_iload_n hx hb dX9_retarget_35 rfl (lv_at hl 2 rfl) ?_
      refine va_iast (D := D) hx hb hK hP hD hS 64 0 (wd_64 y ad cap I J) rfl (vp_in_nI (by omega) (by omega)) dX9_retarget_36 (fun H locs hP hD hS => ?_)
      rw [nI_clamp (n := b0) (by omega)] at hP hD
      rw [ws_64] at hP hD
      generalize eI36 : va_up I 64 (upd (I 64) b0 (nI t0)) = I36 at hP hD
      refine lv_aload_n hx hb dX9_retarget_37 rfl (lv_at hl 0 rfl) ?_
      refine lv_iconst (v := 1) hx hb dX9_retarget_38 (by decide) ?_
      refine va_put (D := D) (T := TX9) (N := 51) (v := .int 1) (ty := .boolean) hx hb hts jnX9 tyX9 tyX9_ok nmX9 hown hK hP hD hS 55 (wd_55 y ad cap I36 J) rfl 19 (by decide) (hts _ fl_X9_117) (fun _ h9 => h9) rfl (by decide +kernel) rfl rfl (Nat.le_of_ble_eq_true rfl) dX9_retarget_39 (fun H locs hP hD hS => ?_)
      rw [wp_55_19] at hP hD
      generalize eI39 : va_up I36 55 (upd (I36 55) 19 1) = I39 at hP hD
      refine lv_iconst (v := 1) hx hb dX9_retarget_42 (by decide) ?_
      refine W.zret (v := 1) hx hb hr (by decide) (fun t ht hW => ⟨⟨_, (ad, cap, I39, J), rfl, ?_, by rw [ht]; exact hP, by show va_D (va_A (Wd y ad cap I J) s.heap.size) _; rw [hAe]; exact hD⟩, hS.F ht⟩) hS.2.2 dX9_retarget_43
      obtain ⟨g1, g2, g3, g4⟩ := RM_setB (b := b0) (t := t0) hM eI36 eI39
      exact ⟨_, rfl, fun _ => ⟨rfl, g1, g2, g3, g4⟩, fun h9 => absurd hV h9⟩
    · skip
      have c25 := if01_z er22 c25
      have c25 : ¬ (¬ p2 < 0 ∧ ¬ nI (T 0 1) ≤ p2) := fun h9 => c25 ((in_pred (by omega) ev21).mpr h9)
      refine lv_iconst (v := 0) hx hb dX9_retarget_28 (by decide) ?_
      refine W.zret (v := 0) hx hb hr (by decide) (fun t ht hW => ⟨⟨_, (ad, cap, I, J), rfl, ?_, by rw [ht]; exact hP, by show va_D (va_A (Wd y ad cap I J) s.heap.size) _; rw [hAe]; exact hD⟩, hS.F ht⟩) hS.2.2 dX9_retarget_29
      refine ⟨I, rfl, fun h9 => absurd h9 (fun h8 => ?_), fun _ => ⟨rfl, rfl⟩⟩
      obtain ⟨g1, g2⟩ := h8
      first | exact c11 g1 | exact c25 g2
set_option maxHeartbeats 4000000 in
set_option maxRecDepth 100000 in
theorem c_X9_resize (l : Launch) (D : va_G) (y : Nat → ClassId) (ad : Nat → Nat) (cap : Nat → Nat) (I : Nat → Nat → Int32) (J : Nat → Nat → Int64) (sz : Nat) {T : Nat → Nat → Nat} (hM : RM I T) (hW : WF T) (p1 p2 : Int32) : Met l yX9_resize [.code yX9_resize cX9_resize 4 (some .boolean)] ({ frames := 1, cells := 0, slots := 0, locals := 22 }) (va_Pc [.ref (ad 55), .int p1, .int p2] (PW D y (Wd y ad cap I J) sz)) (va_Qi (fun (r : Int32) (u : St4) => ∃ I', u = (ad, cap, I', J) ∧ (rszV T p1 p2 → r = 1 ∧ RM I' (setS T p1.toNatClampNeg p2.toNatClampNeg) ∧ EqX [55, 56] I I' ∧ EqF I I' ∧ I' 55 19 = 1) ∧ (¬ rszV T p1 p2 → r = 0 ∧ I' = I)) (Aft D (Wt y) (Wd y ad cap I J) sz) (va_A (Wd y ad cap I J) sz)) 0 0 (va_A (Wd y ad cap I J) sz) := by
  refine Met.ofW (cc := cX9_resize) (maxL := 4) (ret := (some .boolean)) (by decide) rfl ?_
  intro p e s m args below meth c s₁ B hml hv
  obtain ⟨rfl, rfl, hP, hD0, hO⟩ := hv
  have hx := B.exec
  have hb := B.bytes
  have hr := B.returns
  have hown : s.vm.findClass RX9 = some m.cls := findClass_of_methodNamed B.named
  have hlocks := B.notSynchronized
  have hK := hO.1
  have hts : ∀ w ∈ lw_E, w.before ([.ref (ad 55), .int p1, .int p2] : List Value).toArray s = true := fun w h => hO.2 w h _
  clear B
  have hD := hD0.self (sz := s.heap.size)
  generalize hAe : va_A (Wd y ad cap I J) s.heap.size = A at hD ⊢
  have hA : ∀ q : Nat, s.heap.size ≤ q → A q := fun q h => by rw [← hAe]; exact Or.inr h
  have hS : va_S A s.heap s.heap [] := va_S.rf
  have hl := lv_entry ([.ref (ad 55), .int p1, .int p2]) (n := 4) (Nat.le_of_ble_eq_true rfl)
  rw [lg_entry_eq]
  generalize (lg_sl ([.ref (ad 55), .int p1, .int p2]) ++ List.replicate (4 - (lg_sl ([.ref (ad 55), .int p1, .int p2])).length) Slot.unset).toArray = ls at hl ⊢
  have hl : lv_has ls 4 [(0, .ref (ad 55)), (1, .int p1), (2, .int p2)] := hl
  have hW0 := hW
  obtain ⟨⟨w1, w2, w3, w4, w5, w6, w7⟩, wS, wL, wB, wK, wTk, wT0⟩ := hW
  refine lv_iload_n hx hb dX9_resize_0 rfl (lv_at hl 1 rfl) ?_
  refine lv_iconst (v := 0) hx hb dX9_resize_1 (by decide) ?_
  refine lv_aload_n hx hb dX9_resize_2 rfl (lv_at hl 0 rfl) ?_
  refine va_get (D := D) (T := TX9) (N := 51) hx hb hts jnX9 hown hK hP 55 (wd_55 y ad cap I J) rfl 0 (by decide) (hts _ fl_X9_105) (fun _ h9 => h9) rfl dX9_resize_3 ?_
  refine lv_topi (fun v3 ev3 => ?_)
  obtain rfl : v3 = (nI (T 0 0)) := by
    rw [ev3]; exact hM.1.1
  refine lv_iconst (v := 1) hx hb dX9_resize_6 (by decide) ?_
  refine lv_isub hx hb dX9_resize_7 ?_
  refine lv_topi (fun v7 ev7 => ?_)
  refine rk_i (run_s (As := [.int p1, .int 0, .int v7]) (rest := []) hx hb hml hown hO.2 (c_X9_in l D y p1 0 v7) k_X9_in ml_X9_110 ⟨rfl, rfl⟩ ⟨Nat.le_of_ble_eq_true rfl, Nat.le_of_ble_eq_true rfl⟩ (pre_SR hO hP) rfl hl.1 rfl (Nat.le_of_ble_eq_true rfl) dX9_resize_8 ⟨(Nat.zero_le _), (Nat.zero_le _)⟩) (fun r8 er8 => ?_)
  try dsimp only at er8
  refine lv_if_eq (tgt := 24) hx hb dX9_resize_11 (by decide) (fun c11 => ?_) (fun c11 => ?_)
  · skip
    have c11 := if01_z er8 c11
    have c11 : ¬ (¬ p1 < 0 ∧ ¬ nI (T 0 0) ≤ p1) := fun h9 => c11 ((in_pred (by omega) ev7).mpr h9)
    refine lv_iconst (v := 0) hx hb dX9_resize_24 (by decide) ?_
    refine W.zret (v := 0) hx hb hr (by decide) (fun t ht hW => ⟨⟨_, (ad, cap, I, J), rfl, ?_, by rw [ht]; exact hP, by show va_D (va_A (Wd y ad cap I J) s.heap.size) _; rw [hAe]; exact hD⟩, hS.F ht⟩) hS.2.2 dX9_resize_25
    refine ⟨I, rfl, fun h9 => absurd h9 (fun h8 => ?_), fun _ => ⟨rfl, rfl⟩⟩
    obtain ⟨g1, g2, g3, g4⟩ := h8
    first | exact c11 g1 | exact c21 g2
  · skip
    have c11 := if01_n er8 c11
    have c11 := (in_pred (by omega) ev7).mp c11
    refine lv_iload_n hx hb dX9_resize_14 rfl (lv_at hl 2 rfl) ?_
    refine lv_iconst (v := 0) hx hb dX9_resize_15 (by decide) ?_
    refine lv_ldc (v := 1000000) hx hb hown (hts _ kc_X9_109) dX9_resize_16 ?_
    refine rk_i (run_s (As := [.int p2, .int 0, .int 1000000]) (rest := []) hx hb hml hown hO.2 (c_X9_in l D y p2 0 1000000) k_X9_in ml_X9_110 ⟨rfl, rfl⟩ ⟨Nat.le_of_ble_eq_true rfl, Nat.le_of_ble_eq_true rfl⟩ (pre_SR hO hP) rfl hl.1 rfl (Nat.le_of_ble_eq_true rfl) dX9_resize_18 ⟨(Nat.zero_le _), (Nat.zero_le _)⟩) (fun r18 er18 => ?_)
    try dsimp only at er18
    refine lv_if_ne (tgt := 26) hx hb dX9_resize_21 (by decide) (fun c21 => ?_) (fun c21 => ?_)
    · skip
      have c21 := if01_n er18 c21
      refine lv_iconst (v := 0) hx hb dX9_resize_26 (by decide) ?_
      rw [show (0 : Int32) = (nI 0) from rfl]
      refine lv_istore_n (lv' := [(3, .int (nI 0)), (0, .ref (ad 55)), (1, .int p1), (2, .int p2)]) hx hb dX9_resize_27 rfl hl (by decide) rfl (fun ls hl => ?_)
      have loop28 : ∀ (n28 : Nat) (k : Nat) , (k ≤ T 0 1) → (∀ l, l < k → nI (T 4 l) = p1 → ¬ p2 < nI (T 5 l)) → T 0 1 + 1 ≤ k + n28 → ∀ ls : Array Slot, lv_has ls 4 [(0, .ref (ad 55)), (1, .int p1), (2, .int p2), (3, .int (nI k))] → W p l e (headSpec [.code yX9_resize cX9_resize 4 (some .boolean)] ({ frames := 1, cells := 0, slots := 0, locals := 22 })).room s m ([.ref (ad 55), .int p1, .int p2] : List Value).toArray below meth c s.heap [] 0 0 (MQ below (va_Qi (fun (r : Int32) (u : St4) => ∃ I', u = (ad, cap, I', J) ∧ (rszV T p1 p2 → r = 1 ∧ RM I' (setS T p1.toNatClampNeg p2.toNatClampNeg) ∧ EqX [55, 56] I I' ∧ EqF I I' ∧ I' 55 19 = 1) ∧ (¬ rszV T p1 p2 → r = 0 ∧ I' = I)) (Aft D (Wt y) (Wd y ad cap I J) s.heap.size) A) ([.ref (ad 55), .int p1, .int p2] : List Value).toArray s 0 0 A) (F0 m 28 ls []) := by
        intro n28
        induction n28 with
        | zero =>
          intro k hk hl9 hmeas
          exact absurd hmeas (by omega)
        | succ n28 ih28 =>
          intro k hk hl9 hmeas ls hl
          refine lv_iload_n hx hb dX9_resize_28 rfl (lv_at hl 3 rfl) ?_
          refine lv_aload_n hx hb dX9_resize_29 rfl (lv_at hl 0 rfl) ?_
          refine va_get (D := D) (T := TX9) (N := 51) hx hb hts jnX9 hown hK hP 55 (wd_55 y ad cap I J) rfl 1 (by decide) (hts _ fl_X9_121) (fun _ h9 => h9) rfl dX9_resize_30 ?_
          refine lv_topi (fun v30 ev30 => ?_)
          obtain rfl : v30 = (nI (T 0 1)) := by
            rw [ev30]; exact hM.1.2.1
          refine lv_icmp_ge (tgt := 64) hx hb dX9_resize_33 (by decide) (fun c33 => ?_) (fun c33 => ?_)
          · skip
            have c33 := (nI_leI (a := (T 0 1)) (b := k) (by omega) (by omega)).mp c33
            have hl8 : ∀ l, l < T 0 1 → nI (T 4 l) = p1 → ¬ p2 < nI (T 5 l) := fun l hl => hl9 l (by omega)
            refine lv_iconst (v := 0) hx hb dX9_resize_64 (by decide) ?_
            rw [show (0 : Int32) = (nI 0) from rfl]
            refine lv_istore_n (lv' := [(3, .int (nI 0)), (0, .ref (ad 55)), (1, .int p1), (2, .int p2)]) hx hb dX9_resize_65 rfl hl (by decide) rfl (fun ls hl => ?_)
            have loop66 : ∀ (n66 : Nat) (k : Nat) , (k ≤ T 0 2) → (∀ b, b < k → nI (T 6 b) = p1 → nI (T 7 b) < p2) → T 0 2 + 1 ≤ k + n66 → ∀ ls : Array Slot, lv_has ls 4 [(0, .ref (ad 55)), (1, .int p1), (2, .int p2), (3, .int (nI k))] → W p l e (headSpec [.code yX9_resize cX9_resize 4 (some .boolean)] ({ frames := 1, cells := 0, slots := 0, locals := 22 })).room s m ([.ref (ad 55), .int p1, .int p2] : List Value).toArray below meth c s.heap [] 0 0 (MQ below (va_Qi (fun (r : Int32) (u : St4) => ∃ I', u = (ad, cap, I', J) ∧ (rszV T p1 p2 → r = 1 ∧ RM I' (setS T p1.toNatClampNeg p2.toNatClampNeg) ∧ EqX [55, 56] I I' ∧ EqF I I' ∧ I' 55 19 = 1) ∧ (¬ rszV T p1 p2 → r = 0 ∧ I' = I)) (Aft D (Wt y) (Wd y ad cap I J) s.heap.size) A) ([.ref (ad 55), .int p1, .int p2] : List Value).toArray s 0 0 A) (F0 m 66 ls []) := by
              intro n66
              induction n66 with
              | zero =>
                intro k hk hb9 hmeas
                exact absurd hmeas (by omega)
              | succ n66 ih66 =>
                intro k hk hb9 hmeas ls hl
                refine lv_iload_n hx hb dX9_resize_66 rfl (lv_at hl 3 rfl) ?_
                refine lv_aload_n hx hb dX9_resize_67 rfl (lv_at hl 0 rfl) ?_
                refine va_get (D := D) (T := TX9) (N := 51) hx hb hts jnX9 hown hK hP 55 (wd_55 y ad cap I J) rfl 2 (by decide) (hts _ fl_X9_124) (fun _ h9 => h9) rfl dX9_resize_68 ?_
                refine lv_topi (fun v68 ev68 => ?_)
                obtain rfl : v68 = (nI (T 0 2)) := by
                  rw [ev68]; exact hM.1.2.2.1
                refine lv_icmp_ge (tgt := 102) hx hb dX9_resize_71 (by decide) (fun c71 => ?_) (fun c71 => ?_)
                · skip
                  have c71 := (nI_leI (a := (T 0 2)) (b := k) (by omega) (by omega)).mp c71
                  have hV : rszV T p1 p2 := ⟨c11, c21, hl8, fun b hb => hb9 b (by omega)⟩
                  obtain ⟨s0, s01, hs0⟩ := ix_ok (n := T 0 0) (by omega) c11
                  have s02 : p1.toNatClampNeg = s0 := by rw [s01]; exact nI_clamp (by omega)
                  obtain ⟨n1, hn0⟩ := inR_nat (n := 1000000) rfl hV.2.1
                  rw [s02]
                  generalize p2.toNatClampNeg = n0 at n1 hn0 ⊢
                  clear er8 er18 hl8 hb9 hl9 c21
                  subst n1
                  subst s01
                  refine lv_aload_n hx hb dX9_resize_102 rfl (lv_at hl 0 rfl) ?_
                  refine va_get (D := D) (T := TX9) (N := 51) hx hb hts jnX9 hown hK hP 55 (wd_55 y ad cap I J) rfl 4 (by decide) (hts _ fl_X9_7) (fun _ h9 => h9) rfl dX9_resize_103 ?_
                  refine lv_iload_n hx hb dX9_resize_106 rfl (lv_at hl 1 rfl) ?_
                  refine lv_iload_n hx hb dX9_resize_107 rfl (lv_at hl 2 rfl) ?_
                  refine va_iast (D := D) hx hb hK hP hD hS 56 0 (wd_56 y ad cap I J) rfl (vp_in_nI (by omega) (by omega)) dX9_resize_108 (fun H locs hP hD hS => ?_)
                  rw [nI_clamp (n := s0) (by omega)] at hP hD
                  rw [ws_56] at hP hD
                  generalize eI108 : va_up I 56 (upd (I 56) s0 (nI n0)) = I108 at hP hD
                  refine lv_aload_n hx hb dX9_resize_109 rfl (lv_at hl 0 rfl) ?_
                  refine lv_iconst (v := 1) hx hb dX9_resize_110 (by decide) ?_
                  refine va_put (D := D) (T := TX9) (N := 51) (v := .int 1) (ty := .boolean) hx hb hts jnX9 tyX9 tyX9_ok nmX9 hown hK hP hD hS 55 (wd_55 y ad cap I108 J) rfl 19 (by decide) (hts _ fl_X9_117) (fun _ h9 => h9) rfl (by decide +kernel) rfl rfl (Nat.le_of_ble_eq_true rfl) dX9_resize_111 (fun H locs hP hD hS => ?_)
                  rw [wp_55_19] at hP hD
                  generalize eI111 : va_up I108 55 (upd (I108 55) 19 1) = I111 at hP hD
                  refine lv_iconst (v := 1) hx hb dX9_resize_114 (by decide) ?_
                  refine W.zret (v := 1) hx hb hr (by decide) (fun t ht hW => ⟨⟨_, (ad, cap, I111, J), rfl, ?_, by rw [ht]; exact hP, by show va_D (va_A (Wd y ad cap I J) s.heap.size) _; rw [hAe]; exact hD⟩, hS.F ht⟩) hS.2.2 dX9_resize_115
                  obtain ⟨g1, g2, g3, g4⟩ := RM_setS (s := s0) (n := n0) hM eI108 eI111
                  exact ⟨_, rfl, fun _ => ⟨rfl, g1, g2, g3, g4⟩, fun h9 => absurd hV h9⟩
                · skip
                  have c71 := mt (nI_leI (a := (T 0 2)) (b := k) (by omega) (by omega)).mpr c71
                  refine lv_aload_n hx hb dX9_resize_74 rfl (lv_at hl 0 rfl) ?_
                  refine va_get (D := D) (T := TX9) (N := 51) hx hb hts jnX9 hown hK hP 55 (wd_55 y ad cap I J) rfl 9 (by decide) (hts _ fl_X9_26) (fun _ h9 => h9) rfl dX9_resize_75 ?_
                  refine lv_iload_n hx hb dX9_resize_78 rfl (lv_at hl 3 rfl) ?_
                  refine va_iald (D := D) hx hb hK hP 61 0 (wd_61 y ad cap I J) rfl (vp_in_nI (by omega) (by omega)) dX9_resize_79 ?_
                  rw [nI_clamp (n := k) (by omega)]
                  refine lv_topi (fun v79 ev79 => ?_)
                  obtain rfl : v79 = (nI (T 6 k)) := by
                    rw [ev79]; exact (hM.2.2.2.1 _ (by omega)).1
                  refine lv_iload_n hx hb dX9_resize_80 rfl (lv_at hl 1 rfl) ?_
                  refine lv_icmp_ne (tgt := 96) hx hb dX9_resize_81 (by decide) (fun c81 => ?_) (fun c81 => ?_)
                  · skip
                    refine lv_iinc (v := (nI (k + 1))) (lv' := [(3, .int (nI (k + 1))), (0, .ref (ad 55)), (1, .int p1), (2, .int p2)]) hx hb dX9_resize_96 hl (k := 3) rfl (nI_1 _) (by decide) rfl (fun ls hl => ?_)
                    refine lv_goto (tgt := 66) hx hb dX9_resize_99 (by decide) ?_
                    exact ih66 (k + 1) (by omega) (fun l hl h8 => by rcases lt_s2 hl with h7 | h7; (subst h7; first | exact absurd h8 c81 | exact c91); exact hb9 l h7 h8) (by omega) ls (by exact lv_sub hl [1, 2, 3, 0] rfl)
                  · skip
                    refine lv_aload_n hx hb dX9_resize_84 rfl (lv_at hl 0 rfl) ?_
                    refine va_get (D := D) (T := TX9) (N := 51) hx hb hts jnX9 hown hK hP 55 (wd_55 y ad cap I J) rfl 10 (by decide) (hts _ fl_X9_29) (fun _ h9 => h9) rfl dX9_resize_85 ?_
                    refine lv_iload_n hx hb dX9_resize_88 rfl (lv_at hl 3 rfl) ?_
                    refine va_iald (D := D) hx hb hK hP 62 0 (wd_62 y ad cap I J) rfl (vp_in_nI (by omega) (by omega)) dX9_resize_89 ?_
                    rw [nI_clamp (n := k) (by omega)]
                    refine lv_topi (fun v89 ev89 => ?_)
                    obtain rfl : v89 = (nI (T 7 k)) := by
                      rw [ev89]; exact (hM.2.2.2.1 _ (by omega)).2.1
                    refine lv_iload_n hx hb dX9_resize_90 rfl (lv_at hl 2 rfl) ?_
                    refine lv_icmp_lt (tgt := 96) hx hb dX9_resize_91 (by decide) (fun c91 => ?_) (fun c91 => ?_)
                    · skip
                      refine lv_iinc (v := (nI (k + 1))) (lv' := [(3, .int (nI (k + 1))), (0, .ref (ad 55)), (1, .int p1), (2, .int p2)]) hx hb dX9_resize_96 hl (k := 3) rfl (nI_1 _) (by decide) rfl (fun ls hl => ?_)
                      refine lv_goto (tgt := 66) hx hb dX9_resize_99 (by decide) ?_
                      exact ih66 (k + 1) (by omega) (fun l hl h8 => by rcases lt_s2 hl with h7 | h7; (subst h7; first | exact absurd h8 c81 | exact c91); exact hb9 l h7 h8) (by omega) ls (by exact lv_sub hl [1, 2, 3, 0] rfl)
                    · skip
                      refine lv_iconst (v := 0) hx hb dX9_resize_94 (by decide) ?_
                      refine W.zret (v := 0) hx hb hr (by decide) (fun t ht hW => ⟨⟨_, (ad, cap, I, J), rfl, ?_, by rw [ht]; exact hP, by show va_D (va_A (Wd y ad cap I J) s.heap.size) _; rw [hAe]; exact hD⟩, hS.F ht⟩) hS.2.2 dX9_resize_95
                      refine ⟨I, rfl, fun h9 => absurd h9 (fun h8 => ?_), fun _ => ⟨rfl, rfl⟩⟩
                      obtain ⟨g1, g2, g3, g4⟩ := h8
                      exact c91 (g4 k (by omega) c81)
            exact loop66 (T 0 2 + 1) 0 (by omega) (fun l hl => absurd hl (by omega)) (by omega) ls (by exact lv_sub hl [1, 2, 3, 0] rfl)
          · skip
            have c33 := mt (nI_leI (a := (T 0 1)) (b := k) (by omega) (by omega)).mpr c33
            refine lv_aload_n hx hb dX9_resize_36 rfl (lv_at hl 0 rfl) ?_
            refine va_get (D := D) (T := TX9) (N := 51) hx hb hts jnX9 hown hK hP 55 (wd_55 y ad cap I J) rfl 7 (by decide) (hts _ fl_X9_20) (fun _ h9 => h9) rfl dX9_resize_37 ?_
            refine lv_iload_n hx hb dX9_resize_40 rfl (lv_at hl 3 rfl) ?_
            refine va_iald (D := D) hx hb hK hP 59 0 (wd_59 y ad cap I J) rfl (vp_in_nI (by omega) (by omega)) dX9_resize_41 ?_
            rw [nI_clamp (n := k) (by omega)]
            refine lv_topi (fun v41 ev41 => ?_)
            obtain rfl : v41 = (nI (T 4 k)) := by
              rw [ev41]; exact (hM.2.2.1 _ (by omega)).1
            refine lv_iload_n hx hb dX9_resize_42 rfl (lv_at hl 1 rfl) ?_
            refine lv_icmp_ne (tgt := 58) hx hb dX9_resize_43 (by decide) (fun c43 => ?_) (fun c43 => ?_)
            · skip
              refine lv_iinc (v := (nI (k + 1))) (lv' := [(3, .int (nI (k + 1))), (0, .ref (ad 55)), (1, .int p1), (2, .int p2)]) hx hb dX9_resize_58 hl (k := 3) rfl (nI_1 _) (by decide) rfl (fun ls hl => ?_)
              refine lv_goto (tgt := 28) hx hb dX9_resize_61 (by decide) ?_
              exact ih28 (k + 1) (by omega) (fun l hl h8 => by rcases lt_s2 hl with h7 | h7; (subst h7; first | exact absurd h8 c43 | exact Int32.not_lt.mpr c53); exact hl9 l h7 h8) (by omega) ls (by exact lv_sub hl [1, 2, 3, 0] rfl)
            · skip
              refine lv_aload_n hx hb dX9_resize_46 rfl (lv_at hl 0 rfl) ?_
              refine va_get (D := D) (T := TX9) (N := 51) hx hb hts jnX9 hown hK hP 55 (wd_55 y ad cap I J) rfl 8 (by decide) (hts _ fl_X9_23) (fun _ h9 => h9) rfl dX9_resize_47 ?_
              refine lv_iload_n hx hb dX9_resize_50 rfl (lv_at hl 3 rfl) ?_
              refine va_iald (D := D) hx hb hK hP 60 0 (wd_60 y ad cap I J) rfl (vp_in_nI (by omega) (by omega)) dX9_resize_51 ?_
              rw [nI_clamp (n := k) (by omega)]
              refine lv_topi (fun v51 ev51 => ?_)
              obtain rfl : v51 = (nI (T 5 k)) := by
                rw [ev51]; exact (hM.2.2.1 _ (by omega)).2
              refine lv_iload_n hx hb dX9_resize_52 rfl (lv_at hl 2 rfl) ?_
              refine lv_icmp_le (tgt := 58) hx hb dX9_resize_53 (by decide) (fun c53 => ?_) (fun c53 => ?_)
              · skip
                refine lv_iinc (v := (nI (k + 1))) (lv' := [(3, .int (nI (k + 1))), (0, .ref (ad 55)), (1, .int p1), (2, .int p2)]) hx hb dX9_resize_58 hl (k := 3) rfl (nI_1 _) (by decide) rfl (fun ls hl => ?_)
                refine lv_goto (tgt := 28) hx hb dX9_resize_61 (by decide) ?_
                exact ih28 (k + 1) (by omega) (fun l hl h8 => by rcases lt_s2 hl with h7 | h7; (subst h7; first | exact absurd h8 c43 | exact Int32.not_lt.mpr c53); exact hl9 l h7 h8) (by omega) ls (by exact lv_sub hl [1, 2, 3, 0] rfl)
              · skip
                refine lv_iconst (v := 0) hx hb dX9_resize_56 (by decide) ?_
                refine W.zret (v := 0) hx hb hr (by decide) (fun t ht hW => ⟨⟨_, (ad, cap, I, J), rfl, ?_, by rw [ht]; exact hP, by show va_D (va_A (Wd y ad cap I J) s.heap.size) _; rw [hAe]; exact hD⟩, hS.F ht⟩) hS.2.2 dX9_resize_57
                refine ⟨I, rfl, fun h9 => absurd h9 (fun h8 => ?_), fun _ => ⟨rfl, rfl⟩⟩
                obtain ⟨g1, g2, g3, g4⟩ := h8
                exact c53 (Int32.not_lt.mp (g3 k (by omega) c43))
      exact loop28 (T 0 1 + 1) 0 (by omega) (fun l hl => absurd hl (by omega)) (by omega) ls (by exact lv_sub hl [1, 2, 3, 0] rfl)
    · skip
      have c21 := if01_z er18 c21
      refine lv_iconst (v := 0) hx hb dX9_resize_24 (by decide) ?_
      refine W.zret (v := 0) hx hb hr (by decide) (fun t ht hW => ⟨⟨_, (ad, cap, I, J), rfl, ?_, by rw [ht]; exact hP, by show va_D (va_A (Wd y ad cap I J) s.heap.size) _; rw [hAe]; exact hD⟩, hS.F ht⟩) hS.2.2 dX9_resize_25
      refine ⟨I, rfl, fun h9 => absurd h9 (fun h8 => ?_), fun _ => ⟨rfl, rfl⟩⟩
      obtain ⟨g1, g2, g3, g4⟩ := h8
      first | exact c11 g1 | exact c21 g2
