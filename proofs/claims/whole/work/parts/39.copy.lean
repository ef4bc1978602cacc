set_option maxHeartbeats 4000000 in
set_option maxRecDepth 100000 in
theorem c_X5_copyFrom (l : Launch) (D : va_G) (y : Nat → ClassId) (ad : Nat → Nat) (cap : Nat → Nat) (I : Nat → Nat → Int32) (J : Nat → Nat → Int64) (sz : Nat) {T : Nat → Nat → Nat} (hT : RT1 I T) (hW : WF T) : Met l yX5_copyFrom [.code yX5_copyFrom cX5_copyFrom 3 none] ({ frames := 0, cells := 0, slots := 0, locals := 0 }) (va_Pc [.ref (ad 19), .ref (ad 2)] (PW D y (Wd y ad cap I J) sz)) (va_Qv (fun u : St4 => ∃ I', u = (ad, cap, I', J) ∧ EqX [19, 20, 21, 22] I I' ∧ (I' 19 0 = I 2 0 ∧ I' 19 1 = I 2 1) ∧ ∀ t, t < T 0 0 → I' 20 t = I 3 t ∧ I' 21 t = I 4 t ∧ I' 22 t = I 5 t) (Aft D (Wt y) (Wd y ad cap I J) sz) (va_A (Wd y ad cap I J) sz)) 0 0 (va_A (Wd y ad cap I J) sz) := by
  refine Met.ofW (cc := cX5_copyFrom) (maxL := 3) (ret := none) (by decide) rfl ?_
  intro p e s m args below meth c s₁ B hml hv
  obtain ⟨rfl, rfl, hP, hD0, hO⟩ := hv
  have hx := B.exec
  have hb := B.bytes
  have hr := B.returns
  have hown : s.vm.findClass RX5 = some m.cls := findClass_of_methodNamed B.named
  have hlocks := B.notSynchronized
  have hK := hO.1
  have hts : ∀ w ∈ lw_E, w.before ([.ref (ad 19), .ref (ad 2)] : List Value).toArray s = true := fun w h => hO.2 w h _
  clear B
  have hD := hD0.self (sz := s.heap.size)
  generalize hAe : va_A (Wd y ad cap I J) s.heap.size = A at hD ⊢
  have hA : ∀ q : Nat, s.heap.size ≤ q → A q := fun q h => by rw [← hAe]; exact Or.inr h
  have hS : va_S A s.heap s.heap [] := va_S.rf
  have hl := lv_entry ([.ref (ad 19), .ref (ad 2)]) (n := 3) (Nat.le_of_ble_eq_true rfl)
  rw [lg_entry_eq]
  generalize (lg_sl ([.ref (ad 19), .ref (ad 2)]) ++ List.replicate (3 - (lg_sl ([.ref (ad 19), .ref (ad 2)])).length) Slot.unset).toArray = ls at hl ⊢
  have hl : lv_has ls 3 [(0, .ref (ad 19)), (1, .ref (ad 2))] := hl
  have hW0 := hW
  refine lv_aload_n hx hb dX5_copyFrom_0 rfl (lv_at hl 0 rfl) ?_
  refine lv_aload_n hx hb dX5_copyFrom_1 rfl (lv_at hl 1 rfl) ?_
  refine va_get (D := D) (T := TX5) (N := 5) hx hb hts jnX5 hown hK hP 2 (wd_2 y ad cap I J) rfl 0 (by decide) (hts _ fl_X5_9) (fun _ h9 => h9) rfl dX5_copyFrom_2 ?_
  refine va_put (D := D) (T := TX5) (N := 5) (v := .int (I 2 0)) (ty := .int) hx hb hts jnX5 tyX5 tyX5_ok nmX5 hown hK hP hD hS 19 (wd_19 y ad cap I J) rfl 0 (by decide) (hts _ fl_X5_9) (fun _ h9 => h9) rfl (by decide +kernel) rfl rfl (Nat.le_of_ble_eq_true rfl) dX5_copyFrom_5 (fun H locs hP hD hS => ?_)
  rw [wp_19_0] at hP hD
  generalize eI5 : va_up I 19 (upd (I 19) 0 (I 2 0)) = I5 at hP hD
  refine lv_aload_n hx hb dX5_copyFrom_8 rfl (lv_at hl 0 rfl) ?_
  refine lv_aload_n hx hb dX5_copyFrom_9 rfl (lv_at hl 1 rfl) ?_
  refine va_get (D := D) (T := TX5) (N := 5) hx hb hts jnX5 hown hK hP 2 (wd_2 y ad cap I5 J) rfl 1 (by decide) (hts _ fl_X5_15) (fun _ h9 => h9) rfl dX5_copyFrom_10 ?_
  refine lv_topi (fun v10 ev10 => ?_)
  obtain rfl : v10 = (I 2 1) := by
    rw [ev10, ← eI5]; simp [va_up]
  refine va_put (D := D) (T := TX5) (N := 5) (v := .int (I 2 1)) (ty := .int) hx hb hts jnX5 tyX5 tyX5_ok nmX5 hown hK hP hD hS 19 (wd_19 y ad cap I5 J) rfl 1 (by decide) (hts _ fl_X5_15) (fun _ h9 => h9) rfl (by decide +kernel) rfl rfl (Nat.le_of_ble_eq_true rfl) dX5_copyFrom_13 (fun H locs hP hD hS => ?_)
  rw [wp_19_1] at hP hD
  generalize eI13 : va_up I5 19 (upd (I5 19) 1 (I 2 1)) = I13 at hP hD
  refine lv_iconst (v := 0) hx hb dX5_copyFrom_16 (by decide) ?_
  rw [show (0 : Int32) = (nI 0) from rfl]
  refine lv_istore_n (lv' := [(2, .int (nI 0)), (0, .ref (ad 19)), (1, .ref (ad 2))]) hx hb dX5_copyFrom_17 rfl hl (by decide) rfl (fun ls hl => ?_)
  have loop18 : ∀ (n18 : Nat) (k : Nat) (I9 : Nat → Nat → Int32) , (k ≤ 40) → (EqX [19, 20, 21, 22] I I9) → (I9 19 0 = I 2 0 ∧ I9 19 1 = I 2 1) → (∀ t, t < k → t < T 0 0 → I9 20 t = I 3 t ∧ I9 21 t = I 4 t ∧ I9 22 t = I 5 t) → 40 + 1 ≤ k + n18 → ∀ (H : Heap) (locs : List Loc), va_P D vwCl (Wd y ad cap I9 J) H → va_D A (Wd y ad cap I9 J) → va_S A s.heap H locs → ∀ ls : Array Slot, lv_has ls 3 [(0, .ref (ad 19)), (1, .ref (ad 2)), (2, .int (nI k))] → W p l e (headSpec [.code yX5_copyFrom cX5_copyFrom 3 none] ({ frames := 0, cells := 0, slots := 0, locals := 0 })).room s m ([.ref (ad 19), .ref (ad 2)] : List Value).toArray below meth c H locs 0 0 (MQ below (va_Qv (fun u : St4 => ∃ I', u = (ad, cap, I', J) ∧ EqX [19, 20, 21, 22] I I' ∧ (I' 19 0 = I 2 0 ∧ I' 19 1 = I 2 1) ∧ ∀ t, t < T 0 0 → I' 20 t = I 3 t ∧ I' 21 t = I 4 t ∧ I' 22 t = I 5 t) (Aft D (Wt y) (Wd y ad cap I J) s.heap.size) A) ([.ref (ad 19), .ref (ad 2)] : List Value).toArray s 0 0 A) (F0 m 18 ls []) := by
    intro n18
    induction n18 with
    | zero =>
      intro k I9 hk hE9 h0 h9 hmeas
      exact absurd hmeas (by omega)
    | succ n18 ih18 =>
      intro k I9 hk hE9 h0 h9 hmeas H locs hP hD hS ls hl
      refine lv_iload_n hx hb dX5_copyFrom_18 rfl (lv_at hl 2 rfl) ?_
      refine lv_bipush (v := 40) hx hb dX5_copyFrom_19 (by decide) ?_
      refine lv_icmp_ge (tgt := 66) hx hb dX5_copyFrom_21 (by decide) (fun c21 => ?_) (fun c21 => ?_)
      · skip
        have c21 := (nI_leI (a := 40) (b := k) (by omega) (by omega)).mp c21
        refine W.vret hx hb hr (fun t ht hW => ⟨⟨(ad, cap, I9, J), rfl, ?_, by rw [ht]; exact hP, by show va_D (va_A (Wd y ad cap I J) s.heap.size) _; rw [hAe]; exact hD⟩, hS.F ht⟩) hS.2.2 dX5_copyFrom_66
        exact ⟨I9, rfl, hE9, h0, fun t ht => h9 t (by have := hW0.1.1; omega) ht⟩
      · skip
        have c21 := mt (nI_leI (a := 40) (b := k) (by omega) (by omega)).mpr c21
        refine lv_aload_n hx hb dX5_copyFrom_24 rfl (lv_at hl 0 rfl) ?_
        refine va_get (D := D) (T := TX5) (N := 5) hx hb hts jnX5 hown hK hP 19 (wd_19 y ad cap I9 J) rfl 2 (by decide) (hts _ fl_X5_18) (fun _ h9 => h9) rfl dX5_copyFrom_25 ?_
        refine lv_iload_n hx hb dX5_copyFrom_28 rfl (lv_at hl 2 rfl) ?_
        refine lv_aload_n hx hb dX5_copyFrom_29 rfl (lv_at hl 1 rfl) ?_
        refine va_get (D := D) (T := TX5) (N := 5) hx hb hts jnX5 hown hK hP 2 (wd_2 y ad cap I9 J) rfl 2 (by decide) (hts _ fl_X5_18) (fun _ h9 => h9) rfl dX5_copyFrom_30 ?_
        refine lv_iload_n hx hb dX5_copyFrom_33 rfl (lv_at hl 2 rfl) ?_
        refine va_iald (D := D) hx hb hK hP 3 0 (wd_3 y ad cap I9 J) rfl (vp_in_nI (by omega) (by omega)) dX5_copyFrom_34 ?_
        rw [nI_clamp (n := k) (by omega)]
        refine lv_topi (fun v34 ev34 => ?_)
        refine va_iast (D := D) hx hb hK hP hD hS 20 0 (wd_20 y ad cap I9 J) rfl (vp_in_nI (by omega) (by omega)) dX5_copyFrom_35 (fun H locs hP hD hS => ?_)
        rw [nI_clamp (n := k) (by omega)] at hP hD
        rw [ws_20] at hP hD
        generalize eI35 : va_up I9 20 (upd (I9 20) k v34) = I35 at hP hD
        refine lv_aload_n hx hb dX5_copyFrom_36 rfl (lv_at hl 0 rfl) ?_
        refine va_get (D := D) (T := TX5) (N := 5) hx hb hts jnX5 hown hK hP 19 (wd_19 y ad cap I35 J) rfl 3 (by decide) (hts _ fl_X5_22) (fun _ h9 => h9) rfl dX5_copyFrom_37 ?_
        refine lv_iload_n hx hb dX5_copyFrom_40 rfl (lv_at hl 2 rfl) ?_
        refine lv_aload_n hx hb dX5_copyFrom_41 rfl (lv_at hl 1 rfl) ?_
        refine va_get (D := D) (T := TX5) (N := 5) hx hb hts jnX5 hown hK hP 2 (wd_2 y ad cap I35 J) rfl 3 (by decide) (hts _ fl_X5_22) (fun _ h9 => h9) rfl dX5_copyFrom_42 ?_
        refine lv_iload_n hx hb dX5_copyFrom_45 rfl (lv_at hl 2 rfl) ?_
        refine va_iald (D := D) hx hb hK hP 4 0 (wd_4 y ad cap I35 J) rfl (vp_in_nI (by omega) (by omega)) dX5_copyFrom_46 ?_
        rw [nI_clamp (n := k) (by omega)]
        refine lv_topi (fun v46 ev46 => ?_)
        refine va_iast (D := D) hx hb hK hP hD hS 21 0 (wd_21 y ad cap I35 J) rfl (vp_in_nI (by omega) (by omega)) dX5_copyFrom_47 (fun H locs hP hD hS => ?_)
        rw [nI_clamp (n := k) (by omega)] at hP hD
        rw [ws_21] at hP hD
        generalize eI47 : va_up I35 21 (upd (I35 21) k v46) = I47 at hP hD
        refine lv_aload_n hx hb dX5_copyFrom_48 rfl (lv_at hl 0 rfl) ?_
        refine va_get (D := D) (T := TX5) (N := 5) hx hb hts jnX5 hown hK hP 19 (wd_19 y ad cap I47 J) rfl 4 (by decide) (hts _ fl_X5_25) (fun _ h9 => h9) rfl dX5_copyFrom_49 ?_
        refine lv_iload_n hx hb dX5_copyFrom_52 rfl (lv_at hl 2 rfl) ?_
        refine lv_aload_n hx hb dX5_copyFrom_53 rfl (lv_at hl 1 rfl) ?_
        refine va_get (D := D) (T := TX5) (N := 5) hx hb hts jnX5 hown hK hP 2 (wd_2 y ad cap I47 J) rfl 4 (by decide) (hts _ fl_X5_25) (fun _ h9 => h9) rfl dX5_copyFrom_54 ?_
        refine lv_iload_n hx hb dX5_copyFrom_57 rfl (lv_at hl 2 rfl) ?_
        refine va_zald (D := D) hx hb hK hP 5 2 (wd_5 y ad cap I47 J) rfl (vp_in_nI (by omega) (by omega)) dX5_copyFrom_58 ?_
        rw [nI_clamp (n := k) (by omega)]
        refine lv_topi (fun v58 ev58 => ?_)
        refine va_zast (D := D) hx hb hK hP hD hS 22 2 (wd_22 y ad cap I47 J) rfl (vp_in_nI (by omega) (by omega)) dX5_copyFrom_59 (fun H locs hP hD hS => ?_)
        rw [nI_clamp (n := k) (by omega)] at hP hD
        rw [ws_22] at hP hD
        generalize eI59 : va_up I47 22 (upd (I47 22) k (vp_nar .boolean v58)) = I59 at hP hD
        refine lv_iinc (v := (nI (k + 1))) (lv' := [(2, .int (nI (k + 1))), (0, .ref (ad 19)), (1, .ref (ad 2))]) hx hb dX5_copyFrom_60 hl (k := 2) rfl (nI_1 _) (by decide) rfl (fun ls hl => ?_)
        refine lv_goto (tgt := 18) hx hb dX5_copyFrom_63 (by decide) ?_
        exact ih18 (k + 1) I59 (by omega) (by subst eI59 eI47 eI35; refine EqX.up (EqX.up (EqX.up hE9 ?_) ?_) ?_ <;> decide) (by subst eI59 eI47 eI35; simpa [va_up] using h0) (fun t ht h8 => by
          have g3 := hE9 3 (by decide)
          have g4 := hE9 4 (by decide)
          have g5 := hE9 5 (by decide)
          rcases lt_s2 ht with h7 | h7
          · subst h7
            have hp := (hT.2.1 t h8).2.2
            have hw := (hW.2.1 t h8).2.2
            rw [ev34, ev46, ev58] at *
            subst eI59 eI47 eI35
            simp [va_up, upd, g3, g4, g5, hp]
            exact nar01 hw
          · have hne : t ≠ k := by omega
            have := h9 t h7 h8
            subst eI59 eI47 eI35
            simpa [va_up, upd, hne] using this) (by omega) _ _ hP hD hS ls (by exact lv_sub hl [1, 2, 0] rfl)
  exact loop18 (40 + 1) 0 I13 (by omega) (by subst eI13 eI5; refine EqX.up (EqX.up EqX.rf ?_) ?_ <;> decide) (by subst eI13 eI5; simp [va_up, upd]) (fun t ht => absurd ht (by omega)) (by omega) _ _ hP hD hS ls (by exact lv_sub hl [1, 2, 0] rfl)
set_option maxHeartbeats 4000000 in
set_option maxRecDepth 100000 in
theorem c_X3_copyFrom (l : Launch) (D : va_G) (y : Nat → ClassId) (ad : Nat → Nat) (cap : Nat → Nat) (I : Nat → Nat → Int32) (J : Nat → Nat → Int64) (sz : Nat) : Met l yX3_copyFrom [.code yX3_copyFrom cX3_copyFrom 2 none] ({ frames := 1, cells := 0, slots := 0, locals := 40 }) (va_Pc [.ref (ad 23), .ref (ad 6)] (PW D y (Wd y ad cap I J) sz)) (va_Qv (fun u : St4 => ∃ I', u = (ad, cap, I', J) ∧ EqX [23, 24, 25] I I' ∧ I' 23 0 = I 6 0 ∧ ∀ t, t < 60 → I' 24 t = I 7 t ∧ I' 25 t = I 8 t) (Aft D (Wt y) (Wd y ad cap I J) sz) (va_A (Wd y ad cap I J) sz)) 0 0 (va_A (Wd y ad cap I J) sz) := by
  refine Met.ofW (cc := cX3_copyFrom) (maxL := 2) (ret := none) (by decide) rfl ?_
  intro p e s m args below meth c s₁ B hml hv
  obtain ⟨rfl, rfl, hP, hD0, hO⟩ := hv
  have hx := B.exec
  have hb := B.bytes
  have hr := B.returns
  have hown : s.vm.findClass RX3 = some m.cls := findClass_of_methodNamed B.named
  have hlocks := B.notSynchronized
  have hK := hO.1
  have hts : ∀ w ∈ lw_E, w.before ([.ref (ad 23), .ref (ad 6)] : List Value).toArray s = true := fun w h => hO.2 w h _
  clear B
  have hD := hD0.self (sz := s.heap.size)
  generalize hAe : va_A (Wd y ad cap I J) s.heap.size = A at hD ⊢
  have hA : ∀ q : Nat, s.heap.size ≤ q → A q := fun q h => by rw [← hAe]; exact Or.inr h
  have hS : va_S A s.heap s.heap [] := va_S.rf
  have hl := lv_entry ([.ref (ad 23), .ref (ad 6)]) (n := 2) (Nat.le_of_ble_eq_true rfl)
  rw [lg_entry_eq]
  generalize (lg_sl ([.ref (ad 23), .ref (ad 6)]) ++ List.replicate (2 - (lg_sl ([.ref (ad 23), .ref (ad 6)])).length) Slot.unset).toArray = ls at hl ⊢
  have hl : lv_has ls 2 [(0, .ref (ad 23)), (1, .ref (ad 6))] := hl
  refine lv_aload_n hx hb dX3_copyFrom_0 rfl (lv_at hl 0 rfl) ?_
  refine lv_aload_n hx hb dX3_copyFrom_1 rfl (lv_at hl 1 rfl) ?_
  refine va_get (D := D) (T := TX3) (N := 3) hx hb hts jnX3 hown hK hP 6 (wd_6 y ad cap I J) rfl 0 (by decide) (hts _ fl_X3_9) (fun _ h9 => h9) rfl dX3_copyFrom_2 ?_
  refine va_put (D := D) (T := TX3) (N := 3) (v := .int (I 6 0)) (ty := .int) hx hb hts jnX3 tyX3 tyX3_ok nmX3 hown hK hP hD hS 23 (wd_23 y ad cap I J) rfl 0 (by decide) (hts _ fl_X3_9) (fun _ h9 => h9) rfl (by decide +kernel) rfl rfl (Nat.le_of_ble_eq_true rfl) dX3_copyFrom_5 (fun H locs hP hD hS => ?_)
  rw [wp_23_0] at hP hD
  generalize eI5 : va_up I 23 (upd (I 23) 0 (I 6 0)) = I5 at hP hD
  refine lv_aload_n hx hb dX3_copyFrom_8 rfl (lv_at hl 1 rfl) ?_
  refine va_get (D := D) (T := TX3) (N := 3) hx hb hts jnX3 hown hK hP 6 (wd_6 y ad cap I5 J) rfl 1 (by decide) (hts _ fl_X3_15) (fun _ h9 => h9) rfl dX3_copyFrom_9 ?_
  refine lv_iconst (v := 0) hx hb dX3_copyFrom_12 (by decide) ?_
  refine lv_aload_n hx hb dX3_copyFrom_13 rfl (lv_at hl 0 rfl) ?_
  refine va_get (D := D) (T := TX3) (N := 3) hx hb hts jnX3 hown hK hP 23 (wd_23 y ad cap I5 J) rfl 1 (by decide) (hts _ fl_X3_15) (fun _ h9 => h9) rfl dX3_copyFrom_14 ?_
  refine lv_iconst (v := 0) hx hb dX3_copyFrom_17 (by decide) ?_
  refine lv_bipush (v := 60) hx hb dX3_copyFrom_18 (by decide) ?_
  refine va_copyi (D := D) hx hb (by rw [hml]; exact hl.1.symm) hown (hts _ ml_X3_28) (hts _ nt_J10_arraycopy) (hts _ sc_J10_arraycopy) (hts _ ini_J10) hK hP hD hS 7 24 0 0 (wd_7 y ad cap I5 J) (wd_24 y ad cap I5 J) rfl rfl rfl (by decide) (by decide) (by decide) (by decide) (by decide) (fun _ _ => rfl) (Nat.le_of_ble_eq_true rfl) (Nat.le_of_ble_eq_true rfl) dX3_copyFrom_20 (fun H locs hP hD hS => ?_)
  rw [show (60 : Int32).toNatClampNeg = 60 from rfl, show (0 : Int32).toNatClampNeg = 0 from rfl] at hP hD
  rw [ws_24] at hP hD
  generalize eI20 : va_up I5 24 (va_cpy (I5 7) (I5 24) 0 0 60) = I20 at hP hD
  refine lv_aload_n hx hb dX3_copyFrom_23 rfl (lv_at hl 1 rfl) ?_
  refine va_get (D := D) (T := TX3) (N := 3) hx hb hts jnX3 hown hK hP 6 (wd_6 y ad cap I20 J) rfl 2 (by decide) (hts _ fl_X3_19) (fun _ h9 => h9) rfl dX3_copyFrom_24 ?_
  refine lv_iconst (v := 0) hx hb dX3_copyFrom_27 (by decide) ?_
  refine lv_aload_n hx hb dX3_copyFrom_28 rfl (lv_at hl 0 rfl) ?_
  refine va_get (D := D) (T := TX3) (N := 3) hx hb hts jnX3 hown hK hP 23 (wd_23 y ad cap I20 J) rfl 2 (by decide) (hts _ fl_X3_19) (fun _ h9 => h9) rfl dX3_copyFrom_29 ?_
  refine lv_iconst (v := 0) hx hb dX3_copyFrom_32 (by decide) ?_
  refine lv_bipush (v := 60) hx hb dX3_copyFrom_33 (by decide) ?_
  refine va_copyi (D := D) hx hb (by rw [hml]; exact hl.1.symm) hown (hts _ ml_X3_28) (hts _ nt_J10_arraycopy) (hts _ sc_J10_arraycopy) (hts _ ini_J10) hK hP hD hS 8 25 0 0 (wd_8 y ad cap I20 J) (wd_25 y ad cap I20 J) rfl rfl rfl (by decide) (by decide) (by decide) (by decide) (by decide) (fun _ _ => rfl) (Nat.le_of_ble_eq_true rfl) (Nat.le_of_ble_eq_true rfl) dX3_copyFrom_35 (fun H locs hP hD hS => ?_)
  rw [show (60 : Int32).toNatClampNeg = 60 from rfl, show (0 : Int32).toNatClampNeg = 0 from rfl] at hP hD
  rw [ws_25] at hP hD
  generalize eI35 : va_up I20 25 (va_cpy (I20 8) (I20 25) 0 0 60) = I35 at hP hD
  refine W.vret hx hb hr (fun t ht hW => ⟨⟨(ad, cap, I35, J), rfl, ?_, by rw [ht]; exact hP, by show va_D (va_A (Wd y ad cap I J) s.heap.size) _; rw [hAe]; exact hD⟩, hS.F ht⟩) hS.2.2 dX3_copyFrom_38
  refine ⟨_, rfl, ?_, ?_, ?_⟩
  · subst eI35 eI20 eI5
    refine EqX.up (EqX.up (EqX.up (EqX.rf) ?_) ?_) ?_ <;> decide
  · subst eI35 eI20 eI5
    simp [va_up, upd]
  · intro t ht
    subst eI35 eI20 eI5
    simp [va_up, upd, va_cpy, ht]
set_option maxHeartbeats 4000000 in
set_option maxRecDepth 100000 in
theorem c_X2_copyFrom (l : Launch) (D : va_G) (y : Nat → ClassId) (ad : Nat → Nat) (cap : Nat → Nat) (I : Nat → Nat → Int32) (J : Nat → Nat → Int64) (sz : Nat) : Met l yX2_copyFrom [.code yX2_copyFrom cX2_copyFrom 2 none] ({ frames := 1, cells := 0, slots := 0, locals := 40 }) (va_Pc [.ref (ad 26), .ref (ad 9)] (PW D y (Wd y ad cap I J) sz)) (va_Qv (fun u : St4 => ∃ I', u = (ad, cap, I', J) ∧ EqX [27, 28] I I' ∧ ∀ t, t < 8 → I' 27 t = I 10 t ∧ I' 28 t = I 11 t) (Aft D (Wt y) (Wd y ad cap I J) sz) (va_A (Wd y ad cap I J) sz)) 0 0 (va_A (Wd y ad cap I J) sz) := by
  refine Met.ofW (cc := cX2_copyFrom) (maxL := 2) (ret := none) (by decide) rfl ?_
  intro p e s m args below meth c s₁ B hml hv
  obtain ⟨rfl, rfl, hP, hD0, hO⟩ := hv
  have hx := B.exec
  have hb := B.bytes
  have hr := B.returns
  have hown : s.vm.findClass RX2 = some m.cls := findClass_of_methodNamed B.named
  have hlocks := B.notSynchronized
  have hK := hO.1
  have hts : ∀ w ∈ lw_E, w.before ([.ref (ad 26), .ref (ad 9)] : List Value).toArray s = true := fun w h => hO.2 w h _
  clear B
  have hD := hD0.self (sz := s.heap.size)
  generalize hAe : va_A (Wd y ad cap I J) s.heap.size = A at hD ⊢
  have hA : ∀ q : Nat, s.heap.size ≤ q → A q := fun q h => by rw [← hAe]; exact Or.inr h
  have hS : va_S A s.heap s.heap [] := va_S.rf
  have hl := lv_entry ([.ref (ad 26), .ref (ad 9)]) (n := 2) (Nat.le_of_ble_eq_true rfl)
  rw [lg_entry_eq]
  generalize (lg_sl ([.ref (ad 26), .ref (ad 9)]) ++ List.replicate (2 - (lg_sl ([.ref (ad 26), .ref (ad 9)])).length) Slot.unset).toArray = ls at hl ⊢
  have hl : lv_has ls 2 [(0, .ref (ad 26)), (1, .ref (ad 9))] := hl
  refine lv_aload_n hx hb dX2_copyFrom_0 rfl (lv_at hl 1 rfl) ?_
  refine va_get (D := D) (T := TX2) (N := 2) hx hb hts jnX2 hown hK hP 9 (wd_9 y ad cap I J) rfl 0 (by decide) (hts _ fl_X2_9) (fun _ h9 => h9) rfl dX2_copyFrom_1 ?_
  refine lv_iconst (v := 0) hx hb dX2_copyFrom_4 (by decide) ?_
  refine lv_aload_n hx hb dX2_copyFrom_5 rfl (lv_at hl 0 rfl) ?_
  refine va_get (D := D) (T := TX2) (N := 2) hx hb hts jnX2 hown hK hP 26 (wd_26 y ad cap I J) rfl 0 (by decide) (hts _ fl_X2_9) (fun _ h9 => h9) rfl dX2_copyFrom_6 ?_
  refine lv_iconst (v := 0) hx hb dX2_copyFrom_9 (by decide) ?_
  refine lv_bipush (v := 8) hx hb dX2_copyFrom_10 (by decide) ?_
  refine va_copyi (D := D) hx hb (by rw [hml]; exact hl.1.symm) hown (hts _ ml_X2_34) (hts _ nt_J10_arraycopy) (hts _ sc_J10_arraycopy) (hts _ ini_J10) hK hP hD hS 10 27 0 0 (wd_10 y ad cap I J) (wd_27 y ad cap I J) rfl rfl rfl (by decide) (by decide) (by decide) (by decide) (by decide) (fun _ _ => rfl) (Nat.le_of_ble_eq_true rfl) (Nat.le_of_ble_eq_true rfl) dX2_copyFrom_12 (fun H locs hP hD hS => ?_)
  rw [show (8 : Int32).toNatClampNeg = 8 from rfl, show (0 : Int32).toNatClampNeg = 0 from rfl] at hP hD
  rw [ws_27] at hP hD
  generalize eI12 : va_up I 27 (va_cpy (I 10) (I 27) 0 0 8) = I12 at hP hD
  refine lv_aload_n hx hb dX2_copyFrom_15 rfl (lv_at hl 1 rfl) ?_
  refine va_get (D := D) (T := TX2) (N := 2) hx hb hts jnX2 hown hK hP 9 (wd_9 y ad cap I12 J) rfl 1 (by decide) (hts _ fl_X2_15) (fun _ h9 => h9) rfl dX2_copyFrom_16 ?_
  refine lv_iconst (v := 0) hx hb dX2_copyFrom_19 (by decide) ?_
  refine lv_aload_n hx hb dX2_copyFrom_20 rfl (lv_at hl 0 rfl) ?_
  refine va_get (D := D) (T := TX2) (N := 2) hx hb hts jnX2 hown hK hP 26 (wd_26 y ad cap I12 J) rfl 1 (by decide) (hts _ fl_X2_15) (fun _ h9 => h9) rfl dX2_copyFrom_21 ?_
  refine lv_iconst (v := 0) hx hb dX2_copyFrom_24 (by decide) ?_
  refine lv_bipush (v := 8) hx hb dX2_copyFrom_25 (by decide) ?_
  refine va_copyi (D := D) hx hb (by rw [hml]; exact hl.1.symm) hown (hts _ ml_X2_34) (hts _ nt_J10_arraycopy) (hts _ sc_J10_arraycopy) (hts _ ini_J10) hK hP hD hS 11 28 0 0 (wd_11 y ad cap I12 J) (wd_28 y ad cap I12 J) rfl rfl rfl (by decide) (by decide) (by decide) (by decide) (by decide) (fun _ _ => rfl) (Nat.le_of_ble_eq_true rfl) (Nat.le_of_ble_eq_true rfl) dX2_copyFrom_27 (fun H locs hP hD hS => ?_)
  rw [show (8 : Int32).toNatClampNeg = 8 from rfl, show (0 : Int32).toNatClampNeg = 0 from rfl] at hP hD
  rw [ws_28] at hP hD
  generalize eI27 : va_up I12 28 (va_cpy (I12 11) (I12 28) 0 0 8) = I27 at hP hD
  refine W.vret hx hb hr (fun t ht hW => ⟨⟨(ad, cap, I27, J), rfl, ?_, by rw [ht]; exact hP, by show va_D (va_A (Wd y ad cap I J) s.heap.size) _; rw [hAe]; exact hD⟩, hS.F ht⟩) hS.2.2 dX2_copyFrom_30
  refine ⟨_, rfl, ?_, ?_⟩
  · subst eI27 eI12
    refine EqX.up (EqX.up (EqX.rf) ?_) ?_ <;> decide
  · intro t ht
    subst eI27 eI12
    simp [va_up, upd, va_cpy, ht]
set_option maxHeartbeats 4000000 in
set_option maxRecDepth 100000 in
theorem c_X1_copyFrom (l : Launch) (D : va_G) (y : Nat → ClassId) (ad : Nat → Nat) (cap : Nat → Nat) (I : Nat → Nat → Int32) (J : Nat → Nat → Int64) (sz : Nat) : Met l yX1_copyFrom [.code yX1_copyFrom cX1_copyFrom 2 none] ({ frames := 1, cells := 0, slots := 0, locals := 40 }) (va_Pc [.ref (ad 29), .ref (ad 12)] (PW D y (Wd y ad cap I J) sz)) (va_Qv (fun u : St4 => ∃ I', u = (ad, cap, I', J) ∧ EqX [29, 30, 31, 32, 33] I I' ∧ I' 29 0 = I 12 0 ∧ ∀ t, t < 200 → I' 30 t = I 13 t ∧ I' 31 t = I 14 t ∧ I' 32 t = I 15 t ∧ I' 33 t = I 16 t) (Aft D (Wt y) (Wd y ad cap I J) sz) (va_A (Wd y ad cap I J) sz)) 0 0 (va_A (Wd y ad cap I J) sz) := by
  refine Met.ofW (cc := cX1_copyFrom) (maxL := 2) (ret := none) (by decide) rfl ?_
  intro p e s m args below meth c s₁ B hml hv
  obtain ⟨rfl, rfl, hP, hD0, hO⟩ := hv
  have hx := B.exec
  have hb := B.bytes
  have hr := B.returns
  have hown : s.vm.findClass RX1 = some m.cls := findClass_of_methodNamed B.named
  have hlocks := B.notSynchronized
  have hK := hO.1
  have hts : ∀ w ∈ lw_E, w.before ([.ref (ad 29), .ref (ad 12)] : List Value).toArray s = true := fun w h => hO.2 w h _
  clear B
  have hD := hD0.self (sz := s.heap.size)
  generalize hAe : va_A (Wd y ad cap I J) s.heap.size = A at hD ⊢
  have hA : ∀ q : Nat, s.heap.size ≤ q → A q := fun q h => by rw [← hAe]; exact Or.inr h
  have hS : va_S A s.heap s.heap [] := va_S.rf
  have hl := lv_entry ([.ref (ad 29), .ref (ad 12)]) (n := 2) (Nat.le_of_ble_eq_true rfl)
  rw [lg_entry_eq]
  generalize (lg_sl ([.ref (ad 29), .ref (ad 12)]) ++ List.replicate (2 - (lg_sl ([.ref (ad 29), .ref (ad 12)])).length) Slot.unset).toArray = ls at hl ⊢
  have hl : lv_has ls 2 [(0, .ref (ad 29)), (1, .ref (ad 12))] := hl
  refine lv_aload_n hx hb dX1_copyFrom_0 rfl (lv_at hl 0 rfl) ?_
  refine lv_aload_n hx hb dX1_copyFrom_1 rfl (lv_at hl 1 rfl) ?_
  refine va_get (D := D) (T := TX1) (N := 5) hx hb hts jnX1 hown hK hP 12 (wd_12 y ad cap I J) rfl 0 (by decide) (hts _ fl_X1_9) (fun _ h9 => h9) rfl dX1_copyFrom_2 ?_
  refine va_put (D := D) (T := TX1) (N := 5) (v := .int (I 12 0)) (ty := .int) hx hb hts jnX1 tyX1 tyX1_ok nmX1 hown hK hP hD hS 29 (wd_29 y ad cap I J) rfl 0 (by decide) (hts _ fl_X1_9) (fun _ h9 => h9) rfl (by decide +kernel) rfl rfl (Nat.le_of_ble_eq_true rfl) dX1_copyFrom_5 (fun H locs hP hD hS => ?_)
  rw [wp_29_0] at hP hD
  generalize eI5 : va_up I 29 (upd (I 29) 0 (I 12 0)) = I5 at hP hD
  refine lv_aload_n hx hb dX1_copyFrom_8 rfl (lv_at hl 1 rfl) ?_
  refine va_get (D := D) (T := TX1) (N := 5) hx hb hts jnX1 hown hK hP 12 (wd_12 y ad cap I5 J) rfl 1 (by decide) (hts _ fl_X1_15) (fun _ h9 => h9) rfl dX1_copyFrom_9 ?_
  refine lv_iconst (v := 0) hx hb dX1_copyFrom_12 (by decide) ?_
  refine lv_aload_n hx hb dX1_copyFrom_13 rfl (lv_at hl 0 rfl) ?_
  refine va_get (D := D) (T := TX1) (N := 5) hx hb hts jnX1 hown hK hP 29 (wd_29 y ad cap I5 J) rfl 1 (by decide) (hts _ fl_X1_15) (fun _ h9 => h9) rfl dX1_copyFrom_14 ?_
  refine lv_iconst (v := 0) hx hb dX1_copyFrom_17 (by decide) ?_
  refine lv_sipush (v := 200) hx hb dX1_copyFrom_18 (by decide) ?_
  refine va_copyi (D := D) hx hb (by rw [hml]; exact hl.1.symm) hown (hts _ ml_X1_34) (hts _ nt_J10_arraycopy) (hts _ sc_J10_arraycopy) (hts _ ini_J10) hK hP hD hS 13 30 0 0 (wd_13 y ad cap I5 J) (wd_30 y ad cap I5 J) rfl rfl rfl (by decide) (by decide) (by decide) (by decide) (by decide) (fun _ _ => rfl) (Nat.le_of_ble_eq_true rfl) (Nat.le_of_ble_eq_true rfl) dX1_copyFrom_21 (fun H locs hP hD hS => ?_)
  rw [show (200 : Int32).toNatClampNeg = 200 from rfl, show (0 : Int32).toNatClampNeg = 0 from rfl] at hP hD
  rw [ws_30] at hP hD
  generalize eI21 : va_up I5 30 (va_cpy (I5 13) (I5 30) 0 0 200) = I21 at hP hD
  refine lv_aload_n hx hb dX1_copyFrom_24 rfl (lv_at hl 1 rfl) ?_
  refine va_get (D := D) (T := TX1) (N := 5) hx hb hts jnX1 hown hK hP 12 (wd_12 y ad cap I21 J) rfl 2 (by decide) (hts _ fl_X1_19) (fun _ h9 => h9) rfl dX1_copyFrom_25 ?_
  refine lv_iconst (v := 0) hx hb dX1_copyFrom_28 (by decide) ?_
  refine lv_aload_n hx hb dX1_copyFrom_29 rfl (lv_at hl 0 rfl) ?_
  refine va_get (D := D) (T := TX1) (N := 5) hx hb hts jnX1 hown hK hP 29 (wd_29 y ad cap I21 J) rfl 2 (by decide) (hts _ fl_X1_19) (fun _ h9 => h9) rfl dX1_copyFrom_30 ?_
  refine lv_iconst (v := 0) hx hb dX1_copyFrom_33 (by decide) ?_
  refine lv_sipush (v := 200) hx hb dX1_copyFrom_34 (by decide) ?_
  refine va_copyi (D := D) hx hb (by rw [hml]; exact hl.1.symm) hown (hts _ ml_X1_34) (hts _ nt_J10_arraycopy) (hts _ sc_J10_arraycopy) (hts _ ini_J10) hK hP hD hS 14 31 0 0 (wd_14 y ad cap I21 J) (wd_31 y ad cap I21 J) rfl rfl rfl (by decide) (by decide) (by decide) (by decide) (by decide) (fun _ _ => rfl) (Nat.le_of_ble_eq_true rfl) (Nat.le_of_ble_eq_true rfl) dX1_copyFrom_37 (fun H locs hP hD hS => ?_)
  rw [show (200 : Int32).toNatClampNeg = 200 from rfl, show (0 : Int32).toNatClampNeg = 0 from rfl] at hP hD
  rw [ws_31] at hP hD
  generalize eI37 : va_up I21 31 (va_cpy (I21 14) (I21 31) 0 0 200) = I37 at hP hD
  refine lv_aload_n hx hb dX1_copyFrom_40 rfl (lv_at hl 1 rfl) ?_
  refine va_get (D := D) (T := TX1) (N := 5) hx hb hts jnX1 hown hK hP 12 (wd_12 y ad cap I37 J) rfl 3 (by decide) (hts _ fl_X1_22) (fun _ h9 => h9) rfl dX1_copyFrom_41 ?_
  refine lv_iconst (v := 0) hx hb dX1_copyFrom_44 (by decide) ?_
  refine lv_aload_n hx hb dX1_copyFrom_45 rfl (lv_at hl 0 rfl) ?_
  refine va_get (D := D) (T := TX1) (N := 5) hx hb hts jnX1 hown hK hP 29 (wd_29 y ad cap I37 J) rfl 3 (by decide) (hts _ fl_X1_22) (fun _ h9 => h9) rfl dX1_copyFrom_46 ?_
  refine lv_iconst (v := 0) hx hb dX1_copyFrom_49 (by decide) ?_
  refine lv_sipush (v := 200) hx hb dX1_copyFrom_50 (by decide) ?_
  refine va_copyi (D := D) hx hb (by rw [hml]; exact hl.1.symm) hown (hts _ ml_X1_34) (hts _ nt_J10_arraycopy) (hts _ sc_J10_arraycopy) (hts _ ini_J10) hK hP hD hS 15 32 0 0 (wd_15 y ad cap I37 J) (wd_32 y ad cap I37 J) rfl rfl rfl (by decide) (by decide) (by decide) (by decide) (by decide) (fun _ _ => rfl) (Nat.le_of_ble_eq_true rfl) (Nat.le_of_ble_eq_true rfl) dX1_copyFrom_53 (fun H locs hP hD hS => ?_)
  rw [show (200 : Int32).toNatClampNeg = 200 from rfl, show (0 : Int32).toNatClampNeg = 0 from rfl] at hP hD
  rw [ws_32] at hP hD
  generalize eI53 : va_up I37 32 (va_cpy (I37 15) (I37 32) 0 0 200) = I53 at hP hD
  refine lv_aload_n hx hb dX1_copyFrom_56 rfl (lv_at hl 1 rfl) ?_
  refine va_get (D := D) (T := TX1) (N := 5) hx hb hts jnX1 hown hK hP 12 (wd_12 y ad cap I53 J) rfl 4 (by decide) (hts _ fl_X1_25) (fun _ h9 => h9) rfl dX1_copyFrom_57 ?_
  refine lv_iconst (v := 0) hx hb dX1_copyFrom_60 (by decide) ?_
  refine lv_aload_n hx hb dX1_copyFrom_61 rfl (lv_at hl 0 rfl) ?_
  refine va_get (D := D) (T := TX1) (N := 5) hx hb hts jnX1 hown hK hP 29 (wd_29 y ad cap I53 J) rfl 4 (by decide) (hts _ fl_X1_25) (fun _ h9 => h9) rfl dX1_copyFrom_62 ?_
  refine lv_iconst (v := 0) hx hb dX1_copyFrom_65 (by decide) ?_
  refine lv_sipush (v := 200) hx hb dX1_copyFrom_66 (by decide) ?_
  refine va_copyi (D := D) hx hb (by rw [hml]; exact hl.1.symm) hown (hts _ ml_X1_34) (hts _ nt_J10_arraycopy) (hts _ sc_J10_arraycopy) (hts _ ini_J10) hK hP hD hS 16 33 0 0 (wd_16 y ad cap I53 J) (wd_33 y ad cap I53 J) rfl rfl rfl (by decide) (by decide) (by decide) (by decide) (by decide) (fun _ _ => rfl) (Nat.le_of_ble_eq_true rfl) (Nat.le_of_ble_eq_true rfl) dX1_copyFrom_69 (fun H locs hP hD hS => ?_)
  rw [show (200 : Int32).toNatClampNeg = 200 from rfl, show (0 : Int32).toNatClampNeg = 0 from rfl] at hP hD
  rw [ws_33] at hP hD
  generalize eI69 : va_up I53 33 (va_cpy (I53 16) (I53 33) 0 0 200) = I69 at hP hD
  refine W.vret hx hb hr (fun t ht hW => ⟨⟨(ad, cap, I69, J), rfl, ?_, by rw [ht]; exact hP, by show va_D (va_A (Wd y ad cap I J) s.heap.size) _; rw [hAe]; exact hD⟩, hS.F ht⟩) hS.2.2 dX1_copyFrom_72
  refine ⟨_, rfl, ?_, ?_, ?_⟩
  · subst eI69 eI53 eI37 eI21 eI5
    refine EqX.up (EqX.up (EqX.up (EqX.up (EqX.up (EqX.rf) ?_) ?_) ?_) ?_) ?_ <;> decide
  · subst eI69 eI53 eI37 eI21 eI5
    simp [va_up, upd]
  · intro t ht
    subst eI69 eI53 eI37 eI21 eI5
    simp [va_up, upd, va_cpy, ht]
set_option maxHeartbeats 4000000 in
set_option maxRecDepth 100000 in
theorem c_X7_copyFrom (l : Launch) (D : va_G) (y : Nat → ClassId) (ad : Nat → Nat) (cap : Nat → Nat) (I : Nat → Nat → Int32) (J : Nat → Nat → Int64) (sz : Nat) {T : Nat → Nat → Nat} (hT : RT1 I T) (hW : WF T) : Met l yX7_copyFrom [.code yX7_copyFrom cX7_copyFrom 2 none] ({ frames := 2, cells := 0, slots := 0, locals := 61 }) (va_Pc [.ref (ad 18), .ref (ad 1)] (PW D y (Wd y ad cap I J) sz)) (va_Qv (fun u : St4 => ∃ I', u = (ad, cap, I', J) ∧ EqX [18, 19, 20, 21, 22, 23, 24, 25, 27, 28, 29, 30, 31, 32, 33] I I' ∧ RT18 I' T) (Aft D (Wt y) (Wd y ad cap I J) sz) (va_A (Wd y ad cap I J) sz)) 0 0 (va_A (Wd y ad cap I J) sz) := by
  refine Met.ofW (cc := cX7_copyFrom) (maxL := 2) (ret := none) (by decide) rfl ?_
  intro p e s m args below meth c s₁ B hml hv
  obtain ⟨rfl, rfl, hP, hD0, hO⟩ := hv
  have hx := B.exec
  have hb := B.bytes
  have hr := B.returns
  have hown : s.vm.findClass RX7 = some m.cls := findClass_of_methodNamed B.named
  have hlocks := B.notSynchronized
  have hK := hO.1
  have hts : ∀ w ∈ lw_E, w.before ([.ref (ad 18), .ref (ad 1)] : List Value).toArray s = true := fun w h => hO.2 w h _
  clear B
  have hD := hD0.self (sz := s.heap.size)
  generalize hAe : va_A (Wd y ad cap I J) s.heap.size = A at hD ⊢
  have hA : ∀ q : Nat, s.heap.size ≤ q → A q := fun q h => by rw [← hAe]; exact Or.inr h
  have hS : va_S A s.heap s.heap [] := va_S.rf
  have hl := lv_entry ([.ref (ad 18), .ref (ad 1)]) (n := 2) (Nat.le_of_ble_eq_true rfl)
  rw [lg_entry_eq]
  generalize (lg_sl ([.ref (ad 18), .ref (ad 1)]) ++ List.replicate (2 - (lg_sl ([.ref (ad 18), .ref (ad 1)])).length) Slot.unset).toArray = ls at hl ⊢
  have hl : lv_has ls 2 [(0, .ref (ad 18)), (1, .ref (ad 1))] := hl
  have hW0 := hW
  refine lv_aload_n hx hb dX7_copyFrom_0 rfl (lv_at hl 0 rfl) ?_
  refine va_get (D := D) (T := TX7) (N := 8) hx hb hts jnX7 hown hK hP 18 (wd_18 y ad cap I J) rfl 0 (by decide) (hts _ fl_X7_12) (fun _ h9 => h9) rfl dX7_copyFrom_1 ?_
  refine lv_aload_n hx hb dX7_copyFrom_4 rfl (lv_at hl 1 rfl) ?_
  refine va_get (D := D) (T := TX7) (N := 8) hx hb hts jnX7 hown hK hP 1 (wd_1 y ad cap I J) rfl 0 (by decide) (hts _ fl_X7_12) (fun _ h9 => h9) rfl dX7_copyFrom_5 ?_
  refine wk_v (Wf := Wt y) (run_vn (As := [.ref (ad 2)]) (rest := []) (b := (ad 19)) hx hb hml hown hO.2 (c_X5_copyFrom l D y ad cap I J s.heap.size hT hW) k_X5_copyFrom mn_X7_73 ⟨rfl, rfl⟩ ⟨Nat.le_of_ble_eq_true rfl, Nat.le_of_ble_eq_true rfl⟩ (pre_VW hO hP hD (wd_19 y ad cap I J) rfl) rfl hl.1 rfl (Nat.le_of_ble_eq_true rfl) dX7_copyFrom_8 ⟨(Nat.zero_le _), (Nat.zero_le _)⟩) hD hS hA (fun u8 H locs hp8 hP hD hS => ?_)
  try dsimp only at hp8
  obtain ⟨I8, rfl, hE8, hv8⟩ := hp8
  have hP : va_P D vwCl (Wd y ad cap I8 J) H := hP
  have hD : va_D A (Wd y ad cap I8 J) := hD
  refine lv_aload_n hx hb dX7_copyFrom_11 rfl (lv_at hl 0 rfl) ?_
  refine va_get (D := D) (T := TX7) (N := 8) hx hb hts jnX7 hown hK hP 18 (wd_18 y ad cap I8 J) rfl 1 (by decide) (hts _ fl_X7_21) (fun _ h9 => h9) rfl dX7_copyFrom_12 ?_
  refine lv_aload_n hx hb dX7_copyFrom_15 rfl (lv_at hl 1 rfl) ?_
  refine va_get (D := D) (T := TX7) (N := 8) hx hb hts jnX7 hown hK hP 1 (wd_1 y ad cap I8 J) rfl 1 (by decide) (hts _ fl_X7_21) (fun _ h9 => h9) rfl dX7_copyFrom_16 ?_
  refine wk_v (Wf := Wt y) (run_vn (As := [.ref (ad 6)]) (rest := []) (b := (ad 23)) hx hb hml hown hO.2 (c_X3_copyFrom l D y ad cap I8 J H.size) k_X3_copyFrom mn_X7_77 ⟨rfl, rfl⟩ ⟨Nat.le_of_ble_eq_true rfl, Nat.le_of_ble_eq_true rfl⟩ (pre_VW hO hP hD (wd_23 y ad cap I8 J) rfl) rfl hl.1 rfl (Nat.le_of_ble_eq_true rfl) dX7_copyFrom_19 ⟨(Nat.zero_le _), (Nat.zero_le _)⟩) hD hS hA (fun u19 H locs hp19 hP hD hS => ?_)
  try dsimp only at hp19
  obtain ⟨I19, rfl, hE19, hv19⟩ := hp19
  have hP : va_P D vwCl (Wd y ad cap I19 J) H := hP
  have hD : va_D A (Wd y ad cap I19 J) := hD
  refine lv_aload_n hx hb dX7_copyFrom_22 rfl (lv_at hl 0 rfl) ?_
  refine va_get (D := D) (T := TX7) (N := 8) hx hb hts jnX7 hown hK hP 18 (wd_18 y ad cap I19 J) rfl 2 (by decide) (hts _ fl_X7_28) (fun _ h9 => h9) rfl dX7_copyFrom_23 ?_
  refine lv_aload_n hx hb dX7_copyFrom_26 rfl (lv_at hl 1 rfl) ?_
  refine va_get (D := D) (T := TX7) (N := 8) hx hb hts jnX7 hown hK hP 1 (wd_1 y ad cap I19 J) rfl 2 (by decide) (hts _ fl_X7_28) (fun _ h9 => h9) rfl dX7_copyFrom_27 ?_
  refine wk_v (Wf := Wt y) (run_vn (As := [.ref (ad 9)]) (rest := []) (b := (ad 26)) hx hb hml hown hO.2 (c_X2_copyFrom l D y ad cap I19 J H.size) k_X2_copyFrom mn_X7_80 ⟨rfl, rfl⟩ ⟨Nat.le_of_ble_eq_true rfl, Nat.le_of_ble_eq_true rfl⟩ (pre_VW hO hP hD (wd_26 y ad cap I19 J) rfl) rfl hl.1 rfl (Nat.le_of_ble_eq_true rfl) dX7_copyFrom_30 ⟨(Nat.zero_le _), (Nat.zero_le _)⟩) hD hS hA (fun u30 H locs hp30 hP hD hS => ?_)
  try dsimp only at hp30
  obtain ⟨I30, rfl, hE30, hv30⟩ := hp30
  have hP : va_P D vwCl (Wd y ad cap I30 J) H := hP
  have hD : va_D A (Wd y ad cap I30 J) := hD
  refine lv_aload_n hx hb dX7_copyFrom_33 rfl (lv_at hl 0 rfl) ?_
  refine va_get (D := D) (T := TX7) (N := 8) hx hb hts jnX7 hown hK hP 18 (wd_18 y ad cap I30 J) rfl 3 (by decide) (hts _ fl_X7_35) (fun _ h9 => h9) rfl dX7_copyFrom_34 ?_
  refine lv_aload_n hx hb dX7_copyFrom_37 rfl (lv_at hl 1 rfl) ?_
  refine va_get (D := D) (T := TX7) (N := 8) hx hb hts jnX7 hown hK hP 1 (wd_1 y ad cap I30 J) rfl 3 (by decide) (hts _ fl_X7_35) (fun _ h9 => h9) rfl dX7_copyFrom_38 ?_
  refine wk_v (Wf := Wt y) (run_vn (As := [.ref (ad 12)]) (rest := []) (b := (ad 29)) hx hb hml hown hO.2 (c_X1_copyFrom l D y ad cap I30 J H.size) k_X1_copyFrom mn_X7_83 ⟨rfl, rfl⟩ ⟨Nat.le_of_ble_eq_true rfl, Nat.le_of_ble_eq_true rfl⟩ (pre_VW hO hP hD (wd_29 y ad cap I30 J) rfl) rfl hl.1 rfl (Nat.le_of_ble_eq_true rfl) dX7_copyFrom_41 ⟨(Nat.zero_le _), (Nat.zero_le _)⟩) hD hS hA (fun u41 H locs hp41 hP hD hS => ?_)
  try dsimp only at hp41
  obtain ⟨I41, rfl, hE41, hv41⟩ := hp41
  have hP : va_P D vwCl (Wd y ad cap I41 J) H := hP
  have hD : va_D A (Wd y ad cap I41 J) := hD
  refine lv_aload_n hx hb dX7_copyFrom_44 rfl (lv_at hl 0 rfl) ?_
  refine lv_aload_n hx hb dX7_copyFrom_45 rfl (lv_at hl 1 rfl) ?_
  refine va_get (D := D) (T := TX7) (N := 8) hx hb hts jnX7 hown hK hP 1 (wd_1 y ad cap I41 J) rfl 4 (by decide) (hts _ fl_X7_39) (fun _ h9 => h9) rfl dX7_copyFrom_46 ?_
  refine va_put (D := D) (T := TX7) (N := 8) (v := .int (I41 1 4)) (ty := .int) hx hb hts jnX7 tyX7 tyX7_ok nmX7 hown hK hP hD hS 18 (wd_18 y ad cap I41 J) rfl 4 (by decide) (hts _ fl_X7_39) (fun _ h9 => h9) rfl (by decide +kernel) rfl rfl (Nat.le_of_ble_eq_true rfl) dX7_copyFrom_49 (fun H locs hP hD hS => ?_)
  rw [wp_18_4] at hP hD
  generalize eI49 : va_up I41 18 (upd (I41 18) 4 (I41 1 4)) = I49 at hP hD
  refine lv_aload_n hx hb dX7_copyFrom_52 rfl (lv_at hl 0 rfl) ?_
  refine lv_aload_n hx hb dX7_copyFrom_53 rfl (lv_at hl 1 rfl) ?_
  refine va_get (D := D) (T := TX7) (N := 8) hx hb hts jnX7 hown hK hP 1 (wd_1 y ad cap I49 J) rfl 5 (by decide) (hts _ fl_X7_43) (fun _ h9 => h9) rfl dX7_copyFrom_54 ?_
  refine va_put (D := D) (T := TX7) (N := 8) (v := .int (I49 1 5)) (ty := .int) hx hb hts jnX7 tyX7 tyX7_ok nmX7 hown hK hP hD hS 18 (wd_18 y ad cap I49 J) rfl 5 (by decide) (hts _ fl_X7_43) (fun _ h9 => h9) rfl (by decide +kernel) rfl rfl (Nat.le_of_ble_eq_true rfl) dX7_copyFrom_57 (fun H locs hP hD hS => ?_)
  rw [wp_18_5] at hP hD
  generalize eI57 : va_up I49 18 (upd (I49 18) 5 (I49 1 5)) = I57 at hP hD
  refine lv_aload_n hx hb dX7_copyFrom_60 rfl (lv_at hl 0 rfl) ?_
  refine lv_aload_n hx hb dX7_copyFrom_61 rfl (lv_at hl 1 rfl) ?_
  refine va_get (D := D) (T := TX7) (N := 8) hx hb hts jnX7 hown hK hP 1 (wd_1 y ad cap I57 J) rfl 6 (by decide) (hts _ fl_X7_46) (fun _ h9 => h9) rfl dX7_copyFrom_62 ?_
  refine va_put (D := D) (T := TX7) (N := 8) (v := .int (I57 1 6)) (ty := .int) hx hb hts jnX7 tyX7 tyX7_ok nmX7 hown hK hP hD hS 18 (wd_18 y ad cap I57 J) rfl 6 (by decide) (hts _ fl_X7_46) (fun _ h9 => h9) rfl (by decide +kernel) rfl rfl (Nat.le_of_ble_eq_true rfl) dX7_copyFrom_65 (fun H locs hP hD hS => ?_)
  rw [wp_18_6] at hP hD
  generalize eI65 : va_up I57 18 (upd (I57 18) 6 (I57 1 6)) = I65 at hP hD
  refine lv_aload_n hx hb dX7_copyFrom_68 rfl (lv_at hl 0 rfl) ?_
  refine lv_aload_n hx hb dX7_copyFrom_69 rfl (lv_at hl 1 rfl) ?_
  refine va_get (D := D) (T := TX7) (N := 8) hx hb hts jnX7 hown hK hP 1 (wd_1 y ad cap I65 J) rfl 7 (by decide) (hts _ fl_X7_49) (fun _ h9 => h9) rfl dX7_copyFrom_70 ?_
  refine va_put (D := D) (T := TX7) (N := 8) (v := .int (I65 1 7)) (ty := .int) hx hb hts jnX7 tyX7 tyX7_ok nmX7 hown hK hP hD hS 18 (wd_18 y ad cap I65 J) rfl 7 (by decide) (hts _ fl_X7_49) (fun _ h9 => h9) rfl (by decide +kernel) rfl rfl (Nat.le_of_ble_eq_true rfl) dX7_copyFrom_73 (fun H locs hP hD hS => ?_)
  rw [wp_18_7] at hP hD
  generalize eI73 : va_up I65 18 (upd (I65 18) 7 (I65 1 7)) = I73 at hP hD
  refine W.vret hx hb hr (fun t ht hW => ⟨⟨(ad, cap, I73, J), rfl, ?_, by rw [ht]; exact hP, by show va_D (va_A (Wd y ad cap I J) s.heap.size) _; rw [hAe]; exact hD⟩, hS.F ht⟩) hS.2.2 dX7_copyFrom_76
  have b1 : ∀ j, j ≤ 16 → I41 j = I j := fun j hj => by rw [hE41 j (by simp; omega), hE30 j (by simp; omega), hE19 j (by simp; omega), hE8 j (by simp; omega)]
  have b2 : ∀ j, j ≤ 16 → I30 j = I j := fun j hj => by rw [hE30 j (by simp; omega), hE19 j (by simp; omega), hE8 j (by simp; omega)]
  have b3 : ∀ j, j ≤ 16 → I19 j = I j := fun j hj => by rw [hE19 j (by simp; omega), hE8 j (by simp; omega)]
  have b4 : ∀ j, j ≤ 16 → I8 j = I j := fun j hj => by rw [hE8 j (by simp; omega)]
  have a19 : ∀ j, j = 19 ∨ j = 20 ∨ j = 21 ∨ j = 22 → I41 j = I8 j := fun j hj => by rw [hE41 j (by simp; omega), hE30 j (by simp; omega), hE19 j (by simp; omega)]
  have a23 : ∀ j, j = 23 ∨ j = 24 ∨ j = 25 → I41 j = I19 j := fun j hj => by rw [hE41 j (by simp; omega), hE30 j (by simp; omega)]
  have a27 : ∀ j, j = 27 ∨ j = 28 → I41 j = I30 j := fun j hj => by rw [hE41 j (by simp; omega)]
  obtain ⟨⟨h1, h2, h3, h4, h5, h6, h7, h8⟩, hS9, hL9, hB9, hK9⟩ := hT
  obtain ⟨⟨w1, w2, w3, w4, w5, w6, w7⟩, wS, wL, wB, wK, wTk, wT0⟩ := hW0
  obtain ⟨⟨v1, v2⟩, v3⟩ := hv8
  obtain ⟨v4, v5⟩ := hv19
  obtain ⟨v6, v7⟩ := hv41
  refine ⟨I73, rfl, ?_, ?_⟩
  · intro j hj
    have hne : j ≠ 18 := by simp at hj; omega
    simp at hj
    rw [← eI73, ← eI65, ← eI57, ← eI49]
    simp only [va_up, if_neg hne]
    rw [hE41 j (by simp; omega), hE30 j (by simp; omega), hE19 j (by simp; omega), hE8 j (by simp; omega)]
  · have c18 : ∀ j, j ≠ 18 → I73 j = I41 j := fun j hj => by rw [← eI73, ← eI65, ← eI57, ← eI49]; simp only [va_up, if_neg hj]
    have e4 : I73 18 4 = I 1 4 := by rw [← eI73, ← eI65, ← eI57, ← eI49]; simp [va_up, upd, b1]
    have e5 : I73 18 5 = I 1 5 := by rw [← eI73, ← eI65, ← eI57, ← eI49]; simp [va_up, upd, b1]
    have e6 : I73 18 6 = I 1 6 := by rw [← eI73, ← eI65, ← eI57, ← eI49]; simp [va_up, upd, b1]
    have e7 : I73 18 7 = I 1 7 := by rw [← eI73, ← eI65, ← eI57, ← eI49]; simp [va_up, upd, b1]
    refine ⟨⟨?_, ?_, ?_, ?_, ?_, ?_, ?_, ?_⟩, ?_, ?_, ?_, ?_⟩
    · rw [c18 19 (by decide), a19 19 (by decide), v1]; exact h1
    · rw [c18 23 (by decide), a23 23 (by decide), v4, b4 6 (by decide)]; exact h2
    · rw [c18 29 (by decide), v6, b2 12 (by decide)]; exact h3
    · rw [c18 19 (by decide), a19 19 (by decide), v2]; exact h4
    · rw [e4]; exact h5
    · rw [e5]; exact h6
    · rw [e6]; exact h7
    · rw [e7]; exact h8
    · intro s hs
      obtain ⟨g1, g2, g3⟩ := v3 s hs
      rw [c18 20 (by decide), a19 20 (by decide), c18 21 (by decide), a19 21 (by decide), c18 22 (by decide), a19 22 (by decide), g1, g2, g3]
      exact hS9 s hs
    · intro s hs
      obtain ⟨g1, g2⟩ := v5 s (by omega)
      rw [c18 24 (by decide), a23 24 (by decide), c18 25 (by decide), a23 25 (by decide), g1, g2, b4 7 (by decide), b4 8 (by decide)]
      exact hL9 s hs
    · intro s hs
      obtain ⟨g1, g2, g3, g4⟩ := v7 s (by omega)
      rw [c18 30 (by decide), c18 31 (by decide), c18 32 (by decide), c18 33 (by decide), g1, g2, g3, g4, b2 13 (by decide), b2 14 (by decide), b2 15 (by decide), b2 16 (by decide)]
      exact hB9 s hs
    · intro s hs
      obtain ⟨g1, g2⟩ := hv30 s hs
      rw [c18 27 (by decide), a27 27 (by decide), c18 28 (by decide), a27 28 (by decide), g1, g2, b3 10 (by decide), b3 11 (by decide)]
      exact hK9 s hs
