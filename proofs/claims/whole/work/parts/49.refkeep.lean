def ML (I : Nat → Nat → Int32) (J : Nat → Nat → Int64) (TL : Nat → Nat → Nat) (M : List Th) (R : Nat) : Prop :=
  (I 55 20 = 1 ∧ I 55 21 = nI (TL 0 0) ∧ I 55 22 = nI (TL 0 1) ∧ I 55 23 = nI (TL 0 2) ∧ I 55 24 = nI M.length ∧ I 55 25 = nI R ∧ I 55 40 = nI (TL 0 5) ∧ (0 < TL 0 5 → I 55 41 = nI (TL 0 7)) ∧ J 55 26 = lN (TL 0 4)) ∧
  (TW TL M ∧ (0 < M.length → 0 < TL 0 5)) ∧ (∀ s, s < TL 0 0 → I 69 s = nI (TL 3 s)) ∧
  (∀ k, k < 8 → I 77 k = nI (stpN TL k) ∧ I 78 k = nI (TL 11 k)) ∧
  (∀ b, b < TL 0 2 → I 73 b = nI (TL 8 b) ∧ I 74 b = nI (TL 9 b) ∧ I 75 b = nI (wyB TL M b) ∧ I 76 b = oI (rtB TL M b)) ∧
  (∀ t, t < M.length → (I 80 t = nI (thA M t).1 ∧ I 81 t = nI (thA M t).2.1 ∧ I 82 t = nI (thA M t).2.2.1 ∧ I 83 t = nI (thA M t).2.2.2 ∧ I 85 t = nI (rk M t)) ∧ I 84 t = nI (us TL M t (TL 0 2))) ∧ MA J TL M
def RVM (T : Nat → Nat → Nat) (M : List Th) (I : Nat → Nat → Int32) (k : Nat) : Prop := (∀ b, b < k → I 73 b = nI (T 8 b) ∧ I 74 b = nI (T 9 b) ∧ I 75 b = nI (wyB T M b) ∧ I 76 b = oI (rtB T M b)) ∧ ∀ t, t < M.length → I 84 t = nI (us T M t k)
theorem RM_eqx {I I' : Nat → Nat → Int32} {T : Nat → Nat → Nat} (h : RM I T) (he : ∀ j, 56 ≤ j → j ≤ 66 → I' j = I j) (h0 : ∀ k, k ≤ 3 ∨ (15 ≤ k ∧ k ≤ 18) → I' 55 k = I 55 k) : RM I' T := by
  unfold RM at *
  simp only [he 56 (by decide) (by decide), he 57 (by decide) (by decide), he 58 (by decide) (by decide), he 59 (by decide) (by decide), he 60 (by decide) (by decide), he 61 (by decide) (by decide), he 62 (by decide) (by decide), he 63 (by decide) (by decide), he 64 (by decide) (by decide), he 65 (by decide) (by decide), he 66 (by decide) (by decide), h0 0 (by omega), h0 1 (by omega), h0 2 (by omega), h0 3 (by omega), h0 15 (by omega), h0 16 (by omega), h0 17 (by omega), h0 18 (by omega)]
  exact h
theorem RVM_step {T : Nat → Nat → Nat} {M : List Th} {I I1 I2 I3 I4 : Nat → Nat → Int32} {k : Nat} (h : RVM T M I k) {v3 v4 : Int32} (hv3 : v3 = oI (rtB T M k)) (hv4 : v4 = nI (wyB T M k)) (e1 : va_up I 73 (upd (I 73) k (nI (T 8 k))) = I1) (e2 : va_up I1 74 (upd (I1 74) k (nI (T 9 k))) = I2) (e3 : va_up I2 76 (upd (I2 76) k v3) = I3) (e4 : va_up I3 75 (upd (I3 75) k v4) = I4) : (∀ b, b < k + 1 → I4 73 b = nI (T 8 b) ∧ I4 74 b = nI (T 9 b) ∧ I4 75 b = nI (wyB T M b) ∧ I4 76 b = oI (rtB T M b)) ∧ I4 84 = I 84 ∧ EqX [73, 74, 75, 76, 84] I I4 := by
  subst e1 e2 e3 e4
  refine ⟨fun b hb => ?_, ?_, ?_⟩
  · rcases lt_s2 hb with rfl | h9
    · simp [va_up, upd, hv3, hv4]
    · have hne : b ≠ k := by omega
      simpa [va_up, upd, hne] using h.1 b h9
  · simp [va_up]
  · refine EqX.up (EqX.up (EqX.up (EqX.up EqX.rf ?_) ?_) ?_) ?_ <;> decide
set_option maxHeartbeats 4000000 in
set_option maxRecDepth 100000 in
theorem c_X9_keeps (l : Launch) (D : va_G) (y : Nat → ClassId) (ad : Nat → Nat) (cap : Nat → Nat) (I : Nat → Nat → Int32) (J : Nat → Nat → Int64) (sz : Nat) {T : Nat → Nat → Nat} {M : List Th} {R : Nat} (hM : RM I T) (hW : WF T) (hTWM : TW T M) (hMT : MT I M) (htz0 : 0 < M.length → 0 < T 0 5) (hMA : MA J T M) (hU : ∀ t, t < M.length → I 84 t = 0) (h24 : I 55 24 = nI M.length) (h25 : I 55 25 = nI R) : Met l yX9_keeps [.code yX9_keeps cX9_keeps 3 (some .int)] ({ frames := 2, cells := 0, slots := 0, locals := 54 }) (va_Pc [.ref (ad 55)] (PW D y (Wd y ad cap I J) sz)) (va_Qi (fun (r : Int32) (u : St4) => ∃ I' J', u = (ad, cap, I', J') ∧ r = nI (wc T M 2 (T 0 2)) ∧ ML I' J' T M R ∧ RM I' T ∧ I' 55 19 = 0 ∧ EqX [55, 69, 73, 74, 75, 76, 77, 78, 84] I I' ∧ EqJ [55] J J' ∧ ∀ k, k ≠ 26 → J' 55 k = J 55 k) (Aft D (Wt y) (Wd y ad cap I J) sz) (va_A (Wd y ad cap I J) sz)) 0 0 (va_A (Wd y ad cap I J) sz) := by
  refine Met.ofW (cc := cX9_keeps) (maxL := 3) (ret := (some .int)) (by decide) rfl ?_
  intro p e s m args below meth c s₁ B hml hv
  obtain ⟨rfl, rfl, hP, hD0, hO⟩ := hv
  have hx := B.exec
  have hb := B.bytes
  have hr := B.returns
  have hown : s.vm.findClass RX9 = some m.cls := findClass_of_methodNamed B.named
  have hlocks := B.notSynchronized
  have hK := hO.1
  have hts : ∀ w ∈ lw_E, w.before ([.ref (ad 55)] : List Value).toArray s = true := fun w h => hO.2 w h _
  clear B
  have hD := hD0.self (sz := s.heap.size)
  generalize hAe : va_A (Wd y ad cap I J) s.heap.size = A at hD ⊢
  have hA : ∀ q : Nat, s.heap.size ≤ q → A q := fun q h => by rw [← hAe]; exact Or.inr h
  have hS : va_S A s.heap s.heap [] := va_S.rf
  have hl := lv_entry ([.ref (ad 55)]) (n := 3) (Nat.le_of_ble_eq_true rfl)
  rw [lg_entry_eq]
  generalize (lg_sl ([.ref (ad 55)]) ++ List.replicate (3 - (lg_sl ([.ref (ad 55)])).length) Slot.unset).toArray = ls at hl ⊢
  have hl : lv_has ls 3 [(0, .ref (ad 55))] := hl
  have hW0 := hW
  obtain ⟨⟨w1, w2, w3, w4, w5, w6, w7⟩, wS, wL, wB, wK, wTk, wT0⟩ := hW
  have hlM : M.length ≤ 2400 := TW_len hW0 hTWM
  have h17 := hM.1.2.2.2.2.2.2.2
  refine lv_aload_n hx hb dX9_keeps_0 rfl (lv_at hl 0 rfl) ?_
  refine lv_iconst (v := 1) hx hb dX9_keeps_1 (by decide) ?_
  refine va_put (D := D) (T := TX9) (N := 51) (v := .int 1) (ty := .boolean) hx hb hts jnX9 tyX9 tyX9_ok nmX9 hown hK hP hD hS 55 (wd_55 y ad cap I J) rfl 20 (by decide) (hts _ fl_X9_187) (fun _ h9 => h9) rfl (by decide +kernel) rfl rfl (Nat.le_of_ble_eq_true rfl) dX9_keeps_2 (fun H locs hP hD hS => ?_)
  rw [wp_55_20] at hP hD
  generalize eI2 : va_up I 55 (upd (I 55) 20 1) = I2 at hP hD
  refine lv_aload_n hx hb dX9_keeps_5 rfl (lv_at hl 0 rfl) ?_
  refine lv_iconst (v := 0) hx hb dX9_keeps_6 (by decide) ?_
  refine va_put (D := D) (T := TX9) (N := 51) (v := .int 0) (ty := .boolean) hx hb hts jnX9 tyX9 tyX9_ok nmX9 hown hK hP hD hS 55 (wd_55 y ad cap I2 J) rfl 19 (by decide) (hts _ fl_X9_117) (fun _ h9 => h9) rfl (by decide +kernel) rfl rfl (Nat.le_of_ble_eq_true rfl) dX9_keeps_7 (fun H locs hP hD hS => ?_)
  rw [wp_55_19] at hP hD
  generalize eI7 : va_up I2 55 (upd (I2 55) 19 0) = I7 at hP hD
  refine lv_aload_n hx hb dX9_keeps_10 rfl (lv_at hl 0 rfl) ?_
  refine lv_aload_n hx hb dX9_keeps_11 rfl (lv_at hl 0 rfl) ?_
  refine va_get (D := D) (T := TX9) (N := 51) hx hb hts jnX9 hown hK hP 55 (wd_55 y ad cap I7 J) rfl 0 (by decide) (hts _ fl_X9_105) (fun _ h9 => h9) rfl dX9_keeps_12 ?_
  refine lv_topi (fun v12 ev12 => ?_)
  obtain rfl : v12 = (nI (T 0 0)) := by
    rw [ev12, ← eI7, ← eI2]; simpa [va_up, upd] using hM.1.1
  refine va_put (D := D) (T := TX9) (N := 51) (v := .int (nI (T 0 0))) (ty := .int) hx hb hts jnX9 tyX9 tyX9_ok nmX9 hown hK hP hD hS 55 (wd_55 y ad cap I7 J) rfl 21 (by decide) (hts _ fl_X9_190) (fun _ h9 => h9) rfl (by decide +kernel) rfl rfl (Nat.le_of_ble_eq_true rfl) dX9_keeps_15 (fun H locs hP hD hS => ?_)
  rw [wp_55_21] at hP hD
  generalize eI15 : va_up I7 55 (upd (I7 55) 21 (nI (T 0 0))) = I15 at hP hD
  refine lv_aload_n hx hb dX9_keeps_18 rfl (lv_at hl 0 rfl) ?_
  refine lv_aload_n hx hb dX9_keeps_19 rfl (lv_at hl 0 rfl) ?_
  refine va_get (D := D) (T := TX9) (N := 51) hx hb hts jnX9 hown hK hP 55 (wd_55 y ad cap I15 J) rfl 1 (by decide) (hts _ fl_X9_121) (fun _ h9 => h9) rfl dX9_keeps_20 ?_
  refine lv_topi (fun v20 ev20 => ?_)
  obtain rfl : v20 = (nI (T 0 1)) := by
    rw [ev20, ← eI15, ← eI7, ← eI2]; simpa [va_up, upd] using hM.1.2.1
  refine va_put (D := D) (T := TX9) (N := 51) (v := .int (nI (T 0 1))) (ty := .int) hx hb hts jnX9 tyX9 tyX9_ok nmX9 hown hK hP hD hS 55 (wd_55 y ad cap I15 J) rfl 22 (by decide) (hts _ fl_X9_193) (fun _ h9 => h9) rfl (by decide +kernel) rfl rfl (Nat.le_of_ble_eq_true rfl) dX9_keeps_23 (fun H locs hP hD hS => ?_)
  rw [wp_55_22] at hP hD
  generalize eI23 : va_up I15 55 (upd (I15 55) 22 (nI (T 0 1))) = I23 at hP hD
  refine lv_aload_n hx hb dX9_keeps_26 rfl (lv_at hl 0 rfl) ?_
  refine lv_aload_n hx hb dX9_keeps_27 rfl (lv_at hl 0 rfl) ?_
  refine va_get (D := D) (T := TX9) (N := 51) hx hb hts jnX9 hown hK hP 55 (wd_55 y ad cap I23 J) rfl 2 (by decide) (hts _ fl_X9_124) (fun _ h9 => h9) rfl dX9_keeps_28 ?_
  refine lv_topi (fun v28 ev28 => ?_)
  obtain rfl : v28 = (nI (T 0 2)) := by
    rw [ev28, ← eI23, ← eI15, ← eI7, ← eI2]; simpa [va_up, upd] using hM.1.2.2.1
  refine va_put (D := D) (T := TX9) (N := 51) (v := .int (nI (T 0 2))) (ty := .int) hx hb hts jnX9 tyX9 tyX9_ok nmX9 hown hK hP hD hS 55 (wd_55 y ad cap I23 J) rfl 23 (by decide) (hts _ fl_X9_196) (fun _ h9 => h9) rfl (by decide +kernel) rfl rfl (Nat.le_of_ble_eq_true rfl) dX9_keeps_31 (fun H locs hP hD hS => ?_)
  rw [wp_55_23] at hP hD
  generalize eI31 : va_up I23 55 (upd (I23 55) 23 (nI (T 0 2))) = I31 at hP hD
  refine lv_aload_n hx hb dX9_keeps_34 rfl (lv_at hl 0 rfl) ?_
  refine lv_aload_n hx hb dX9_keeps_35 rfl (lv_at hl 0 rfl) ?_
  refine va_get (D := D) (T := TX9) (N := 51) hx hb hts jnX9 hown hK hP 55 (wd_55 y ad cap I31 J) rfl 18 (by decide) (hts _ fl_X9_136) (fun _ h9 => h9) rfl dX9_keeps_36 ?_
  refine lv_topi (fun v36 ev36 => ?_)
  obtain rfl : v36 = (nI (T 0 4)) := by
    rw [ev36, ← eI31, ← eI23, ← eI15, ← eI7, ← eI2]; simpa [va_up, upd] using hM.1.2.2.2.2.1
  refine lv_i2l (v := lN (T 0 4)) hx hb dX9_keeps_39 (nI_l (by omega)) ?_
  refine va_put (D := D) (T := TX9) (N := 51) (v := .long (lN (T 0 4))) (ty := .long) hx hb hts jnX9 tyX9 tyX9_ok nmX9 hown hK hP hD hS 55 (wd_55 y ad cap I31 J) rfl 26 (by decide) (hts _ fl_X9_199) (fun _ h9 => h9) rfl (by decide +kernel) rfl rfl (Nat.le_of_ble_eq_true rfl) dX9_keeps_40 (fun H locs hP hD hS => ?_)
  rw [wp_55_26] at hP hD
  generalize eJ40 : va_up J 55 (vp_updL (J 55) 26 (lN (T 0 4))) = J40 at hP hD
  refine lv_aload_n hx hb dX9_keeps_43 rfl (lv_at hl 0 rfl) ?_
  refine lv_aload_n hx hb dX9_keeps_44 rfl (lv_at hl 0 rfl) ?_
  refine va_get (D := D) (T := TX9) (N := 51) hx hb hts jnX9 hown hK hP 55 (wd_55 y ad cap I31 J40) rfl 15 (by decide) (hts _ fl_X9_127) (fun _ h9 => h9) rfl dX9_keeps_45 ?_
  refine lv_topi (fun v45 ev45 => ?_)
  obtain rfl : v45 = (nI (T 0 5)) := by
    rw [ev45, ← eI31, ← eI23, ← eI15, ← eI7, ← eI2]; simpa [va_up, upd] using hM.1.2.2.2.2.2.1
  refine va_put (D := D) (T := TX9) (N := 51) (v := .int (nI (T 0 5))) (ty := .int) hx hb hts jnX9 tyX9 tyX9_ok nmX9 hown hK hP hD hS 55 (wd_55 y ad cap I31 J40) rfl 40 (by decide) (hts _ fl_X9_202) (fun _ h9 => h9) rfl (by decide +kernel) rfl rfl (Nat.le_of_ble_eq_true rfl) dX9_keeps_48 (fun H locs hP hD hS => ?_)
  rw [wp_55_40] at hP hD
  generalize eI48 : va_up I31 55 (upd (I31 55) 40 (nI (T 0 5))) = I48 at hP hD
  refine lv_aload_n hx hb dX9_keeps_51 rfl (lv_at hl 0 rfl) ?_
  refine lv_aload_n hx hb dX9_keeps_52 rfl (lv_at hl 0 rfl) ?_
  refine va_get (D := D) (T := TX9) (N := 51) hx hb hts jnX9 hown hK hP 55 (wd_55 y ad cap I48 J40) rfl 17 (by decide) (hts _ fl_X9_133) (fun _ h9 => h9) rfl dX9_keeps_53 ?_
  refine va_put (D := D) (T := TX9) (N := 51) (v := .int (I48 55 17)) (ty := .int) hx hb hts jnX9 tyX9 tyX9_ok nmX9 hown hK hP hD hS 55 (wd_55 y ad cap I48 J40) rfl 41 (by decide) (hts _ fl_X9_205) (fun _ h9 => h9) rfl (by decide +kernel) rfl rfl (Nat.le_of_ble_eq_true rfl) dX9_keeps_56 (fun H locs hP hD hS => ?_)
  rw [wp_55_41] at hP hD
  generalize eI56 : va_up I48 55 (upd (I48 55) 41 (I48 55 17)) = I56 at hP hD
  have r55 : ∀ k, k ≠ 19 → k ≠ 20 → k ≠ 21 → k ≠ 22 → k ≠ 23 → k ≠ 40 → k ≠ 41 → I56 55 k = I 55 k := fun k h1 h2 h3 h4 h5 h6 h7 => by rw [← eI56, ← eI48, ← eI31, ← eI23, ← eI15, ← eI7, ← eI2]; simp [va_up, upd, h1, h2, h3, h4, h5, h6, h7]
  have rj : ∀ j, j ≠ 55 → I56 j = I j := fun j hj => by rw [← eI56, ← eI48, ← eI31, ← eI23, ← eI15, ← eI7, ← eI2]; simp [va_up, hj]
  have jj : ∀ j, j ≠ 55 → J40 j = J j := fun j hj => by rw [← eJ40]; simp [va_up, hj]
  have jk : ∀ k, k ≠ 26 → J40 55 k = J 55 k := fun k hk => by rw [← eJ40]; simp [va_up, vp_updL, hk]
  have v19 : I56 55 19 = 0 := by rw [← eI56, ← eI48, ← eI31, ← eI23, ← eI15, ← eI7, ← eI2]; simp [va_up, upd]
  have v20 : I56 55 20 = 1 := by rw [← eI56, ← eI48, ← eI31, ← eI23, ← eI15, ← eI7, ← eI2]; simp [va_up, upd]
  have v21 : I56 55 21 = nI (T 0 0) := by rw [← eI56, ← eI48, ← eI31, ← eI23, ← eI15, ← eI7, ← eI2]; simp [va_up, upd]
  have v22 : I56 55 22 = nI (T 0 1) := by rw [← eI56, ← eI48, ← eI31, ← eI23, ← eI15, ← eI7, ← eI2]; simp [va_up, upd]
  have v23 : I56 55 23 = nI (T 0 2) := by rw [← eI56, ← eI48, ← eI31, ← eI23, ← eI15, ← eI7, ← eI2]; simp [va_up, upd]
  have v40 : I56 55 40 = nI (T 0 5) := by rw [← eI56, ← eI48, ← eI31, ← eI23, ← eI15, ← eI7, ← eI2]; simp [va_up, upd]
  have v41 : I56 55 41 = I 55 17 := by rw [← eI56, ← eI48, ← eI31, ← eI23, ← eI15, ← eI7, ← eI2]; simp [va_up, upd]
  have v26 : J40 55 26 = lN (T 0 4) := by rw [← eJ40]; simp [va_up, vp_updL]
  have hM56 : RM I56 T := RM_eqx hM (fun j h1 h2 => rj j (by omega)) (fun k hk => r55 k (by omega) (by omega) (by omega) (by omega) (by omega) (by omega) (by omega))
  have hMA40 : MA J40 T M := by
    unfold MA at hMA ⊢
    simp only [jj 67 (by decide), jj 68 (by decide), jj 70 (by decide), jj 71 (by decide), jj 72 (by decide), jj 79 (by decide), jk 27 (by decide)]
    exact hMA
  clear hM
  have hM := hM56
  have hMA := hMA40
  refine lv_iconst (v := 0) hx hb dX9_keeps_59 (by decide) ?_
  rw [show (0 : Int32) = (nI 0) from rfl]
  refine lv_istore_n (lv' := [(1, .int (nI 0)), (0, .ref (ad 55))]) hx hb dX9_keeps_60 rfl hl (by decide) rfl (fun ls hl => ?_)
  have loop61 : ∀ (n61 : Nat) (k : Nat) (I9 : Nat → Nat → Int32) , (k ≤ T 0 0) → (∀ s, s < k → I9 69 s = nI (T 3 s)) → (EqX [69] I56 I9) → T 0 0 + 1 ≤ k + n61 → ∀ (H : Heap) (locs : List Loc), va_P D vwCl (Wd y ad cap I9 J40) H → va_D A (Wd y ad cap I9 J40) → va_S A s.heap H locs → ∀ ls : Array Slot, lv_has ls 3 [(0, .ref (ad 55)), (1, .int (nI k))] → W p l e (headSpec [.code yX9_keeps cX9_keeps 3 (some .int)] ({ frames := 2, cells := 0, slots := 0, locals := 54 })).room s m ([.ref (ad 55)] : List Value).toArray below meth c H locs 0 0 (MQ below (va_Qi (fun (r : Int32) (u : St4) => ∃ I' J', u = (ad, cap, I', J') ∧ r = nI (wc T M 2 (T 0 2)) ∧ ML I' J' T M R ∧ RM I' T ∧ I' 55 19 = 0 ∧ EqX [55, 69, 73, 74, 75, 76, 77, 78, 84] I I' ∧ EqJ [55] J J' ∧ ∀ k, k ≠ 26 → J' 55 k = J 55 k) (Aft D (Wt y) (Wd y ad cap I J) s.heap.size) A) ([.ref (ad 55)] : List Value).toArray s 0 0 A) (F0 m 61 ls []) := by
    intro n61
    induction n61 with
    | zero =>
      intro k I9 hk h69 hE9 hmeas
      exact absurd hmeas (by omega)
    | succ n61 ih61 =>
      intro k I9 hk h69 hE9 hmeas H locs hP hD hS ls hl
      have hM9 : RM I9 T := RM_eqx hM (fun j h1 h2 => hE9 j (by simp; omega)) (fun k _ => by rw [hE9 55 (by decide)])
      refine lv_iload_n hx hb dX9_keeps_61 rfl (lv_at hl 1 rfl) ?_
      refine lv_aload_n hx hb dX9_keeps_62 rfl (lv_at hl 0 rfl) ?_
      refine va_get (D := D) (T := TX9) (N := 51) hx hb hts jnX9 hown hK hP 55 (wd_55 y ad cap I9 J40) rfl 0 (by decide) (hts _ fl_X9_105) (fun _ h9 => h9) rfl dX9_keeps_63 ?_
      refine lv_topi (fun v63 ev63 => ?_)
      obtain rfl : v63 = (nI (T 0 0)) := by
        rw [ev63]; exact hM9.1.1
      refine lv_icmp_ge (tgt := 87) hx hb dX9_keeps_66 (by decide) (fun c66 => ?_) (fun c66 => ?_)
      · skip
        have c66 := (nI_leI (a := (T 0 0)) (b := k) (by omega) (by omega)).mp c66
        refine lv_iconst (v := 0) hx hb dX9_keeps_87 (by decide) ?_
        rw [show (0 : Int32) = (nI 0) from rfl]
        refine lv_istore_n (lv' := [(1, .int (nI 0)), (0, .ref (ad 55))]) hx hb dX9_keeps_88 rfl hl (by decide) rfl (fun ls hl => ?_)
        have loop89 : ∀ (n89 : Nat) (k2 : Nat) (Ia : Nat → Nat → Int32) , (k2 ≤ 8) → (∀ s, s < k2 → Ia 77 s = nI (stpN T s) ∧ Ia 78 s = nI (T 11 s)) → (EqX [77, 78] I9 Ia) → 8 + 1 ≤ k2 + n89 → ∀ (H : Heap) (locs : List Loc), va_P D vwCl (Wd y ad cap Ia J40) H → va_D A (Wd y ad cap Ia J40) → va_S A s.heap H locs → ∀ ls : Array Slot, lv_has ls 3 [(0, .ref (ad 55)), (1, .int (nI k2))] → W p l e (headSpec [.code yX9_keeps cX9_keeps 3 (some .int)] ({ frames := 2, cells := 0, slots := 0, locals := 54 })).room s m ([.ref (ad 55)] : List Value).toArray below meth c H locs 0 0 (MQ below (va_Qi (fun (r : Int32) (u : St4) => ∃ I' J', u = (ad, cap, I', J') ∧ r = nI (wc T M 2 (T 0 2)) ∧ ML I' J' T M R ∧ RM I' T ∧ I' 55 19 = 0 ∧ EqX [55, 69, 73, 74, 75, 76, 77, 78, 84] I I' ∧ EqJ [55] J J' ∧ ∀ k, k ≠ 26 → J' 55 k = J 55 k) (Aft D (Wt y) (Wd y ad cap I J) s.heap.size) A) ([.ref (ad 55)] : List Value).toArray s 0 0 A) (F0 m 89 ls []) := by
          intro n89
          induction n89 with
          | zero =>
            intro k2 Ia hk2 h77 hEa hmeas
            exact absurd hmeas (by omega)
          | succ n89 ih89 =>
            intro k2 Ia hk2 h77 hEa hmeas H locs hP hD hS ls hl
            have hMa : RM Ia T := RM_eqx hM9 (fun j h1 h2 => hEa j (by simp; omega)) (fun k _ => by rw [hEa 55 (by decide)])
            refine lv_iload_n hx hb dX9_keeps_89 rfl (lv_at hl 1 rfl) ?_
            refine lv_bipush (v := 8) hx hb dX9_keeps_90 (by decide) ?_
            refine lv_icmp_ge (tgt := 125) hx hb dX9_keeps_92 (by decide) (fun c92 => ?_) (fun c92 => ?_)
            · skip
              have c92 := (nI_leI (a := 8) (b := k2) (by omega) (by omega)).mp c92
              refine lv_iconst (v := 0) hx hb dX9_keeps_125 (by decide) ?_
              rw [show (0 : Int32) = (nI (wc T M 2 0)) from rfl]
              refine lv_istore_n (lv' := [(1, .int (nI (wc T M 2 0))), (0, .ref (ad 55))]) hx hb dX9_keeps_126 rfl hl (by decide) rfl (fun ls hl => ?_)
              refine lv_iconst (v := 0) hx hb dX9_keeps_127 (by decide) ?_
              rw [show (0 : Int32) = (nI 0) from rfl]
              refine lv_istore_n (lv' := [(2, .int (nI 0)), (1, .int (nI (wc T M 2 0))), (0, .ref (ad 55))]) hx hb dX9_keeps_128 rfl hl (by decide) rfl (fun ls hl => ?_)
              have loop129 : ∀ (n129 : Nat) (k3 : Nat) (Ib : Nat → Nat → Int32) , (k3 ≤ T 0 2) → (RVM T M Ib k3) → (EqX [73, 74, 75, 76, 84] Ia Ib) → T 0 2 + 1 ≤ k3 + n129 → ∀ (H : Heap) (locs : List Loc), va_P D vwCl (Wd y ad cap Ib J40) H → va_D A (Wd y ad cap Ib J40) → va_S A s.heap H locs → ∀ ls : Array Slot, lv_has ls 3 [(0, .ref (ad 55)), (1, .int (nI (wc T M 2 k3))), (2, .int (nI k3))] → W p l e (headSpec [.code yX9_keeps cX9_keeps 3 (some .int)] ({ frames := 2, cells := 0, slots := 0, locals := 54 })).room s m ([.ref (ad 55)] : List Value).toArray below meth c H locs 0 0 (MQ below (va_Qi (fun (r : Int32) (u : St4) => ∃ I' J', u = (ad, cap, I', J') ∧ r = nI (wc T M 2 (T 0 2)) ∧ ML I' J' T M R ∧ RM I' T ∧ I' 55 19 = 0 ∧ EqX [55, 69, 73, 74, 75, 76, 77, 78, 84] I I' ∧ EqJ [55] J J' ∧ ∀ k, k ≠ 26 → J' 55 k = J 55 k) (Aft D (Wt y) (Wd y ad cap I J) s.heap.size) A) ([.ref (ad 55)] : List Value).toArray s 0 0 A) (F0 m 129 ls []) := by
                intro n129
                induction n129 with
                | zero =>
                  intro k3 Ib hk3 hRV hEb hmeas
                  exact absurd hmeas (by omega)
                | succ n129 ih129 =>
                  intro k3 Ib hk3 hRV hEb hmeas H locs hP hD hS ls hl
                  have hMb : RM Ib T := RM_eqx hMa (fun j h1 h2 => hEb j (by simp; omega)) (fun k _ => by rw [hEb 55 (by decide)])
                  refine lv_iload_n hx hb dX9_keeps_129 rfl (lv_at hl 2 rfl) ?_
                  refine lv_aload_n hx hb dX9_keeps_130 rfl (lv_at hl 0 rfl) ?_
                  refine va_get (D := D) (T := TX9) (N := 51) hx hb hts jnX9 hown hK hP 55 (wd_55 y ad cap Ib J40) rfl 2 (by decide) (hts _ fl_X9_124) (fun _ h9 => h9) rfl dX9_keeps_131 ?_
                  refine lv_topi (fun v131 ev131 => ?_)
                  obtain rfl : v131 = (nI (T 0 2)) := by
                    rw [ev131]; exact hMb.1.2.2.1
                  refine lv_icmp_ge (tgt := 270) hx hb dX9_keeps_134 (by decide) (fun c134 => ?_) (fun c134 => ?_)
                  · skip
                    have c134 := (nI_leI (a := (T 0 2)) (b := k3) (by omega) (by omega)).mp c134
                    refine lv_iload_n hx hb dX9_keeps_270 rfl (lv_at hl 1 rfl) ?_
                    refine W.iret (v := (nI (wc T M 2 k3))) hx hb hr (fun t ht hW => ⟨⟨_, (ad, cap, Ib, J40), rfl, ?_, by rw [ht]; exact hP, by show va_D (va_A (Wd y ad cap I J) s.heap.size) _; rw [hAe]; exact hD⟩, hS.F ht⟩) hS.2.2 dX9_keeps_271
                    have hk9 : k3 = T 0 2 := by omega
                    rw [hk9] at hRV ⊢
                    have g55 : Ib 55 = I56 55 := by rw [hEb 55 (by decide), hEa 55 (by decide), hE9 55 (by decide)]
                    have gj : ∀ j, j ≠ 69 → j ≠ 73 → j ≠ 74 → j ≠ 75 → j ≠ 76 → j ≠ 77 → j ≠ 78 → j ≠ 84 → j ≠ 55 → Ib j = I j := fun j h1 h2 h3 h4 h5 h6 h7 h8 h9 => by rw [hEb j (by simp; omega), hEa j (by simp; omega), hE9 j (by simp; omega), rj j h9]
                    refine ⟨Ib, J40, rfl, rfl, ⟨⟨?_, ?_, ?_, ?_, ?_, ?_, ?_, ?_, v26⟩, ⟨hTWM, htz0⟩, ?_, ?_, hRV.1, ?_, hMA⟩, hMb, ?_, ?_, ?_, ?_⟩
                    · rw [g55]; exact v20
                    · rw [g55]; exact v21
                    · rw [g55]; exact v22
                    · rw [g55]; exact v23
                    · rw [g55, r55 24 (by decide) (by decide) (by decide) (by decide) (by decide) (by decide) (by decide)]; exact h24
                    · rw [g55, r55 25 (by decide) (by decide) (by decide) (by decide) (by decide) (by decide) (by decide)]; exact h25
                    · rw [g55]; exact v40
                    · intro hz
                      rw [g55, v41]
                      exact h17 hz
                    · intro s hs
                      rw [hEb 69 (by decide), hEa 69 (by decide)]
                      exact h69 s (by omega)
                    · intro k hk
                      rw [hEb 77 (by decide), hEb 78 (by decide)]
                      exact h77 k (by omega)
                    · intro t ht
                      refine ⟨?_, hRV.2 t ht⟩
                      rw [gj 80 (by decide) (by decide) (by decide) (by decide) (by decide) (by decide) (by decide) (by decide) (by decide), gj 81 (by decide) (by decide) (by decide) (by decide) (by decide) (by decide) (by decide) (by decide) (by decide), gj 82 (by decide) (by decide) (by decide) (by decide) (by decide) (by decide) (by decide) (by decide) (by decide), gj 83 (by decide) (by decide) (by decide) (by decide) (by decide) (by decide) (by decide) (by decide) (by decide), gj 85 (by decide) (by decide) (by decide) (by decide) (by decide) (by decide) (by decide) (by decide) (by decide)]
                      exact hMT t ht
                    · rw [g55]; exact v19
                    · intro j hj
                      simp at hj
                      exact gj j (by omega) (by omega) (by omega) (by omega) (by omega) (by omega) (by omega) (by omega) (by omega)
                    · intro j hj
                      exact jj j (by simpa using hj)
                    · exact jk
                  · skip
                    have c134 := mt (nI_leI (a := (T 0 2)) (b := k3) (by omega) (by omega)).mpr c134
                    obtain ⟨x1, x2, x6, x7, x8⟩ := wB k3 (by omega)
                    have hwc := wc_le T M 2 k3
                    refine lv_aload_n hx hb dX9_keeps_137 rfl (lv_at hl 0 rfl) ?_
                    refine va_get (D := D) (T := TX9) (N := 51) hx hb hts jnX9 hown hK hP 55 (wd_55 y ad cap Ib J40) rfl 34 (by decide) (hts _ fl_X9_63) (fun _ h9 => h9) rfl dX9_keeps_138 ?_
                    refine lv_iload_n hx hb dX9_keeps_141 rfl (lv_at hl 2 rfl) ?_
                    refine lv_aload_n hx hb dX9_keeps_142 rfl (lv_at hl 0 rfl) ?_
                    refine va_get (D := D) (T := TX9) (N := 51) hx hb hts jnX9 hown hK hP 55 (wd_55 y ad cap Ib J40) rfl 11 (by decide) (hts _ fl_X9_32) (fun _ h9 => h9) rfl dX9_keeps_143 ?_
                    refine lv_iload_n hx hb dX9_keeps_146 rfl (lv_at hl 2 rfl) ?_
                    refine va_iald (D := D) hx hb hK hP 63 0 (wd_63 y ad cap Ib J40) rfl (vp_in_nI (by omega) (by omega)) dX9_keeps_147 ?_
                    rw [nI_clamp (n := k3) (by omega)]
                    refine lv_topi (fun v147 ev147 => ?_)
                    obtain rfl : v147 = (nI (T 8 k3)) := by
                      rw [ev147]; exact (hMb.2.2.2.1 _ (by omega)).2.2.1
                    refine va_iast (D := D) hx hb hK hP hD hS 73 0 (wd_73 y ad cap Ib J40) rfl (vp_in_nI (by omega) (by omega)) dX9_keeps_148 (fun H locs hP hD hS => ?_)
                    rw [nI_clamp (n := k3) (by omega)] at hP hD
                    rw [ws_73] at hP hD
                    generalize eI148 : va_up Ib 73 (upd (Ib 73) k3 (nI (T 8 k3))) = I148 at hP hD
                    refine lv_aload_n hx hb dX9_keeps_149 rfl (lv_at hl 0 rfl) ?_
                    refine va_get (D := D) (T := TX9) (N := 51) hx hb hts jnX9 hown hK hP 55 (wd_55 y ad cap I148 J40) rfl 35 (by decide) (hts _ fl_X9_66) (fun _ h9 => h9) rfl dX9_keeps_150 ?_
                    refine lv_iload_n hx hb dX9_keeps_153 rfl (lv_at hl 2 rfl) ?_
                    refine lv_aload_n hx hb dX9_keeps_154 rfl (lv_at hl 0 rfl) ?_
                    refine va_get (D := D) (T := TX9) (N := 51) hx hb hts jnX9 hown hK hP 55 (wd_55 y ad cap I148 J40) rfl 12 (by decide) (hts _ fl_X9_35) (fun _ h9 => h9) rfl dX9_keeps_155 ?_
                    refine lv_iload_n hx hb dX9_keeps_158 rfl (lv_at hl 2 rfl) ?_
                    refine va_iald (D := D) hx hb hK hP 64 0 (wd_64 y ad cap I148 J40) rfl (vp_in_nI (by omega) (by omega)) dX9_keeps_159 ?_
                    rw [nI_clamp (n := k3) (by omega)]
                    refine lv_topi (fun v159 ev159 => ?_)
                    obtain rfl : v159 = (nI (T 9 k3)) := by
                      rw [ev159, ← eI148]; simpa [va_up, upd] using (hMb.2.2.2.1 _ (by omega)).2.2.2
                    refine va_iast (D := D) hx hb hK hP hD hS 74 0 (wd_74 y ad cap I148 J40) rfl (vp_in_nI (by omega) (by omega)) dX9_keeps_160 (fun H locs hP hD hS => ?_)
                    rw [nI_clamp (n := k3) (by omega)] at hP hD
                    rw [ws_74] at hP hD
                    generalize eI160 : va_up I148 74 (upd (I148 74) k3 (nI (T 9 k3))) = I160 at hP hD
                    have hM160 : RM I160 T := RM_eqx hMb (fun j h1 h2 => by rw [← eI160, ← eI148]; simp only [va_up]; rw [if_neg (by omega), if_neg (by omega)]) (fun k _ => by rw [← eI160, ← eI148]; simp only [va_up]; rw [if_neg (by decide), if_neg (by decide)])
                    have hMT160 : MT I160 (M ++ []) := by
                      rw [List.append_nil]
                      have f9 : ∀ j, j ≠ 69 → j ≠ 73 → j ≠ 74 → j ≠ 75 → j ≠ 76 → j ≠ 77 → j ≠ 78 → j ≠ 84 → j ≠ 55 → I160 j = I j := fun j h1 h2 h3 h4 h5 h6 h7 h8 h9 => by rw [← eI160, ← eI148]; simp only [va_up]; rw [if_neg h3, if_neg h2, hEb j (by simp; omega), hEa j (by simp; omega), hE9 j (by simp; omega), rj j h9]
                      unfold MT at hMT ⊢
                      simp only [f9 80 (by decide) (by decide) (by decide) (by decide) (by decide) (by decide) (by decide) (by decide) (by decide), f9 81 (by decide) (by decide) (by decide) (by decide) (by decide) (by decide) (by decide) (by decide) (by decide), f9 82 (by decide) (by decide) (by decide) (by decide) (by decide) (by decide) (by decide) (by decide) (by decide), f9 83 (by decide) (by decide) (by decide) (by decide) (by decide) (by decide) (by decide) (by decide) (by decide), f9 85 (by decide) (by decide) (by decide) (by decide) (by decide) (by decide) (by decide) (by decide) (by decide)]
                      exact hMT
                    have h160_24 : I160 55 24 = nI M.length := by rw [← eI160, ← eI148]; simp only [va_up]; rw [if_neg (by decide), if_neg (by decide), hEb 55 (by decide), hEa 55 (by decide), hE9 55 (by decide), r55 24 (by decide) (by decide) (by decide) (by decide) (by decide) (by decide) (by decide)]; exact h24
                    by_cases hdr : dirB T (cnt M) k3 = true
                    · obtain ⟨hwy, hrt⟩ := wy_dir hdr
                      refine lv_aload_n hx hb dX9_keeps_161 rfl (lv_at hl 0 rfl) ?_
                      refine va_get (D := D) (T := TX9) (N := 51) hx hb hts jnX9 hown hK hP 55 (wd_55 y ad cap I160 J40) rfl 37 (by decide) (hts _ fl_X9_72) (fun _ h9 => h9) rfl dX9_keeps_162 ?_
                      refine lv_iload_n hx hb dX9_keeps_165 rfl (lv_at hl 2 rfl) ?_
                      refine lv_aload_n hx hb dX9_keeps_166 rfl (lv_at hl 0 rfl) ?_
                      refine lv_iload_n hx hb dX9_keeps_167 rfl (lv_at hl 2 rfl) ?_
                      refine rk_i (run_v (As := [.int (nI k3)]) (rest := [.int (nI k3), .ref (ad 76)]) (b := (ad 55)) hx hb hml hown hO.2 (c_X9_isDirect l D y ad cap I160 J40 hM160 hW0 hMA (by omega) (b0 := k3) (by omega)) k_X9_isDirect ml_X9_166 ⟨rfl, rfl⟩ ⟨Nat.le_of_ble_eq_true rfl, Nat.le_of_ble_eq_true rfl⟩ (pre_VR hO hP (wd_55 y ad cap I160 J40) rfl) rfl hl.1 rfl (Nat.le_of_ble_eq_true rfl) dX9_keeps_168 ⟨(Nat.zero_le _), (Nat.zero_le _)⟩) (fun r168 er168 => ?_)
                      try dsimp only at er168
                      obtain rfl : r168 = 1 := by
                        rw [er168, if_pos hdr]
                      refine lv_if_eq (tgt := 178) hx hb dX9_keeps_171 (by decide) (fun c171 => ?_) (fun c171 => ?_)
                      · skip
                        exact absurd c171 (by decide)
                      · skip
                        refine lv_iconst (v := (-1)) hx hb dX9_keeps_174 (by decide) ?_
                        refine lv_goto (tgt := 187) hx hb dX9_keeps_175 (by decide) ?_
                        refine va_iast (D := D) hx hb hK hP hD hS 76 0 (wd_76 y ad cap I160 J40) rfl (vp_in_nI (by omega) (by omega)) dX9_keeps_187 (fun H locs hP hD hS => ?_)
                        rw [nI_clamp (n := k3) (by omega)] at hP hD
                        rw [ws_76] at hP hD
                        generalize eI187 : va_up I160 76 (upd (I160 76) k3 (-1)) = I187 at hP hD
                        have hM187 : RM I187 T := RM_eqx hM160 (fun j h1 h2 => by rw [← eI187]; simp only [va_up]; rw [if_neg (by omega)]) (fun k _ => by rw [← eI187]; simp only [va_up]; rw [if_neg (by decide)])
                        refine lv_aload_n hx hb dX9_keeps_188 rfl (lv_at hl 0 rfl) ?_
                        refine va_get (D := D) (T := TX9) (N := 51) hx hb hts jnX9 hown hK hP 55 (wd_55 y ad cap I187 J40) rfl 36 (by decide) (hts _ fl_X9_69) (fun _ h9 => h9) rfl dX9_keeps_189 ?_
                        refine lv_iload_n hx hb dX9_keeps_192 rfl (lv_at hl 2 rfl) ?_
                        refine lv_aload_n hx hb dX9_keeps_193 rfl (lv_at hl 0 rfl) ?_
                        refine lv_iload_n hx hb dX9_keeps_194 rfl (lv_at hl 2 rfl) ?_
                        refine rk_i (run_v (As := [.int (nI k3)]) (rest := [.int (nI k3), .ref (ad 75)]) (b := (ad 55)) hx hb hml hown hO.2 (c_X9_isDirect l D y ad cap I187 J40 hM187 hW0 hMA (by omega) (b0 := k3) (by omega)) k_X9_isDirect ml_X9_166 ⟨rfl, rfl⟩ ⟨Nat.le_of_ble_eq_true rfl, Nat.le_of_ble_eq_true rfl⟩ (pre_VR hO hP (wd_55 y ad cap I187 J40) rfl) rfl hl.1 rfl (Nat.le_of_ble_eq_true rfl) dX9_keeps_195 ⟨(Nat.zero_le _), (Nat.zero_le _)⟩) (fun r195 er195 => ?_)
                        try dsimp only at er195
                        obtain rfl : r195 = 1 := by
                          rw [er195, if_pos hdr]
                        refine lv_if_eq (tgt := 205) hx hb dX9_keeps_198 (by decide) (fun c198 => ?_) (fun c198 => ?_)
                        · skip
                          exact absurd c198 (by decide)
                        · skip
                          refine lv_iconst (v := 0) hx hb dX9_keeps_201 (by decide) ?_
                          refine lv_goto (tgt := 220) hx hb dX9_keeps_202 (by decide) ?_
                          refine va_iast (D := D) hx hb hK hP hD hS 75 0 (wd_75 y ad cap I187 J40) rfl (vp_in_nI (by omega) (by omega)) dX9_keeps_220 (fun H locs hP hD hS => ?_)
                          rw [nI_clamp (n := k3) (by omega)] at hP hD
                          rw [ws_75] at hP hD
                          generalize eI220 : va_up I187 75 (upd (I187 75) k3 0) = I220 at hP hD
                          refine lv_aload_n hx hb dX9_keeps_221 rfl (lv_at hl 0 rfl) ?_
                          refine va_get (D := D) (T := TX9) (N := 51) hx hb hts jnX9 hown hK hP 55 (wd_55 y ad cap I220 J40) rfl 37 (by decide) (hts _ fl_X9_72) (fun _ h9 => h9) rfl dX9_keeps_222 ?_
                          refine lv_iload_n hx hb dX9_keeps_225 rfl (lv_at hl 2 rfl) ?_
                          refine va_iald (D := D) hx hb hK hP 76 0 (wd_76 y ad cap I220 J40) rfl (vp_in_nI (by omega) (by omega)) dX9_keeps_226 ?_
                          rw [nI_clamp (n := k3) (by omega)]
                          refine lv_topi (fun v226 ev226 => ?_)
                          obtain rfl : v226 = (-1) := by
                            rw [ev226, ← eI220, ← eI187]; simp [va_up, upd]
                          refine lv_iconst (v := (-1)) hx hb dX9_keeps_227 (by decide) ?_
                          refine lv_icmp_eq (tgt := 246) hx hb dX9_keeps_228 (by decide) (fun c228 => ?_) (fun c228 => ?_)
                          · skip
                            refine lv_iload_n hx hb dX9_keeps_246 rfl (lv_at hl 1 rfl) ?_
                            refine lv_aload_n hx hb dX9_keeps_247 rfl (lv_at hl 0 rfl) ?_
                            refine va_get (D := D) (T := TX9) (N := 51) hx hb hts jnX9 hown hK hP 55 (wd_55 y ad cap I220 J40) rfl 36 (by decide) (hts _ fl_X9_69) (fun _ h9 => h9) rfl dX9_keeps_248 ?_
                            refine lv_iload_n hx hb dX9_keeps_251 rfl (lv_at hl 2 rfl) ?_
                            refine va_iald (D := D) hx hb hK hP 75 0 (wd_75 y ad cap I220 J40) rfl (vp_in_nI (by omega) (by omega)) dX9_keeps_252 ?_
                            rw [nI_clamp (n := k3) (by omega)]
                            refine lv_topi (fun v252 ev252 => ?_)
                            obtain rfl : v252 = 0 := by
                              rw [ev252, ← eI220]; simp [va_up, upd]
                            refine lv_iconst (v := 2) hx hb dX9_keeps_253 (by decide) ?_
                            refine lv_icmp_ne (tgt := 261) hx hb dX9_keeps_254 (by decide) (fun c254 => ?_) (fun c254 => ?_)
                            · skip
                              refine lv_iconst (v := 0) hx hb dX9_keeps_261 (by decide) ?_
                              refine lv_iadd hx hb dX9_keeps_262 ?_
                              refine lv_topi (fun v262 ev262 => ?_)
                              obtain rfl : v262 = (nI (wc T M 2 k3 + 0)) := by
                                rw [ev262]; exact nI_add _ _
                              refine lv_istore_n (lv' := [(1, .int (nI (wc T M 2 k3 + 0))), (0, .ref (ad 55)), (2, .int (nI k3))]) hx hb dX9_keeps_263 rfl hl (by decide) rfl (fun ls hl => ?_)
                              refine lv_iinc (v := (nI (k3 + 1))) (lv' := [(2, .int (nI (k3 + 1))), (1, .int (nI (wc T M 2 k3 + 0))), (0, .ref (ad 55))]) hx hb dX9_keeps_264 hl (k := 2) rfl (nI_1 _) (by decide) rfl (fun ls hl => ?_)
                              refine lv_goto (tgt := 129) hx hb dX9_keeps_267 (by decide) ?_
                              obtain ⟨s1, s2, s3⟩ := RVM_step hRV (v3 := (-1)) (v4 := 0) (by rw [hrt]; rfl) (by rw [hwy]; rfl) eI148 eI160 eI187 eI220
                              have ew : wc T M 2 (k3 + 1) = wc T M 2 k3 + 0 := by simp only [wc, hwy]; rfl
                              exact ih129 (k3 + 1) I220 (by omega) ⟨s1, fun t ht => by rw [s2]; simp only [us, hrt]; exact hRV.2 t ht⟩ (EqX.tr2 hEb s3 (by decide) (by decide)) (by omega) _ _ hP hD hS ls (by rw [ew]; exact lv_sub hl [2, 1, 0] rfl)
                            · skip
                              exact absurd c254 (by decide)
                          · skip
                            exact absurd c228 (by decide)
                    · skip
                      cases hbt : bst T M k3 (T 0 0) with
                      | none =>
                        obtain ⟨hwy, hrt⟩ := wy_ref hdr hbt
                        refine lv_aload_n hx hb dX9_keeps_161 rfl (lv_at hl 0 rfl) ?_
                        refine va_get (D := D) (T := TX9) (N := 51) hx hb hts jnX9 hown hK hP 55 (wd_55 y ad cap I160 J40) rfl 37 (by decide) (hts _ fl_X9_72) (fun _ h9 => h9) rfl dX9_keeps_162 ?_
                        refine lv_iload_n hx hb dX9_keeps_165 rfl (lv_at hl 2 rfl) ?_
                        refine lv_aload_n hx hb dX9_keeps_166 rfl (lv_at hl 0 rfl) ?_
                        refine lv_iload_n hx hb dX9_keeps_167 rfl (lv_at hl 2 rfl) ?_
                        refine rk_i (run_v (As := [.int (nI k3)]) (rest := [.int (nI k3), .ref (ad 76)]) (b := (ad 55)) hx hb hml hown hO.2 (c_X9_isDirect l D y ad cap I160 J40 hM160 hW0 hMA (by omega) (b0 := k3) (by omega)) k_X9_isDirect ml_X9_166 ⟨rfl, rfl⟩ ⟨Nat.le_of_ble_eq_true rfl, Nat.le_of_ble_eq_true rfl⟩ (pre_VR hO hP (wd_55 y ad cap I160 J40) rfl) rfl hl.1 rfl (Nat.le_of_ble_eq_true rfl) dX9_keeps_168 ⟨(Nat.zero_le _), (Nat.zero_le _)⟩) (fun r168 er168 => ?_)
                        try dsimp only at er168
                        obtain rfl : r168 = 0 := by
                          rw [er168, if_neg hdr]
                        refine lv_if_eq (tgt := 178) hx hb dX9_keeps_171 (by decide) (fun c171 => ?_) (fun c171 => ?_)
                        · skip
                          refine lv_aload_n hx hb dX9_keeps_178 rfl (lv_at hl 0 rfl) ?_
                          refine lv_iload_n hx hb dX9_keeps_179 rfl (lv_at hl 2 rfl) ?_
                          refine lv_aload_n hx hb dX9_keeps_180 rfl (lv_at hl 0 rfl) ?_
                          refine va_get (D := D) (T := TX9) (N := 51) hx hb hts jnX9 hown hK hP 55 (wd_55 y ad cap I160 J40) rfl 24 (by decide) (hts _ fl_X9_180) (fun _ h9 => h9) rfl dX9_keeps_181 ?_
                          refine lv_topi (fun v181 ev181 => ?_)
                          obtain rfl : v181 = (nI M.length) := by
                            rw [ev181]; exact h160_24
                          refine rk_i (run_v (As := [.int (nI k3), .int (nI M.length)]) (rest := [.int (nI k3), .ref (ad 76)]) (b := (ad 55)) hx hb hml hown hO.2 (c_X9_thunkFor l D y ad cap I160 J40 (M := M) (F := []) hM160 hW0 hMA (by rw [List.append_nil]; omega) (by rw [List.append_nil]; exact hTWM) hMT160 htz0 (b0 := k3) (by omega)) k_X9_thunkFor ml_X9_170 ⟨rfl, rfl⟩ ⟨Nat.le_of_ble_eq_true rfl, Nat.le_of_ble_eq_true rfl⟩ (pre_VR hO hP (wd_55 y ad cap I160 J40) rfl) rfl hl.1 rfl (Nat.le_of_ble_eq_true rfl) dX9_keeps_184 ⟨(Nat.zero_le _), (Nat.zero_le _)⟩) (fun r184 er184 => ?_)
                          try dsimp only at er184
                          obtain rfl : r184 = (-1) := by
                            rw [er184, hbt]; rfl
                          refine va_iast (D := D) hx hb hK hP hD hS 76 0 (wd_76 y ad cap I160 J40) rfl (vp_in_nI (by omega) (by omega)) dX9_keeps_187 (fun H locs hP hD hS => ?_)
                          rw [nI_clamp (n := k3) (by omega)] at hP hD
                          rw [ws_76] at hP hD
                          generalize eI187 : va_up I160 76 (upd (I160 76) k3 (-1)) = I187 at hP hD
                          have hM187 : RM I187 T := RM_eqx hM160 (fun j h1 h2 => by rw [← eI187]; simp only [va_up]; rw [if_neg (by omega)]) (fun k _ => by rw [← eI187]; simp only [va_up]; rw [if_neg (by decide)])
                          refine lv_aload_n hx hb dX9_keeps_188 rfl (lv_at hl 0 rfl) ?_
                          refine va_get (D := D) (T := TX9) (N := 51) hx hb hts jnX9 hown hK hP 55 (wd_55 y ad cap I187 J40) rfl 36 (by decide) (hts _ fl_X9_69) (fun _ h9 => h9) rfl dX9_keeps_189 ?_
                          refine lv_iload_n hx hb dX9_keeps_192 rfl (lv_at hl 2 rfl) ?_
                          refine lv_aload_n hx hb dX9_keeps_193 rfl (lv_at hl 0 rfl) ?_
                          refine lv_iload_n hx hb dX9_keeps_194 rfl (lv_at hl 2 rfl) ?_
                          refine rk_i (run_v (As := [.int (nI k3)]) (rest := [.int (nI k3), .ref (ad 75)]) (b := (ad 55)) hx hb hml hown hO.2 (c_X9_isDirect l D y ad cap I187 J40 hM187 hW0 hMA (by omega) (b0 := k3) (by omega)) k_X9_isDirect ml_X9_166 ⟨rfl, rfl⟩ ⟨Nat.le_of_ble_eq_true rfl, Nat.le_of_ble_eq_true rfl⟩ (pre_VR hO hP (wd_55 y ad cap I187 J40) rfl) rfl hl.1 rfl (Nat.le_of_ble_eq_true rfl) dX9_keeps_195 ⟨(Nat.zero_le _), (Nat.zero_le _)⟩) (fun r195 er195 => ?_)
                          try dsimp only at er195
                          obtain rfl : r195 = 0 := by
                            rw [er195, if_neg hdr]
                          refine lv_if_eq (tgt := 205) hx hb dX9_keeps_198 (by decide) (fun c198 => ?_) (fun c198 => ?_)
                          · skip
                            refine lv_aload_n hx hb dX9_keeps_205 rfl (lv_at hl 0 rfl) ?_
                            refine va_get (D := D) (T := TX9) (N := 51) hx hb hts jnX9 hown hK hP 55 (wd_55 y ad cap I187 J40) rfl 37 (by decide) (hts _ fl_X9_72) (fun _ h9 => h9) rfl dX9_keeps_206 ?_
                            refine lv_iload_n hx hb dX9_keeps_209 rfl (lv_at hl 2 rfl) ?_
                            refine va_iald (D := D) hx hb hK hP 76 0 (wd_76 y ad cap I187 J40) rfl (vp_in_nI (by omega) (by omega)) dX9_keeps_210 ?_
                            rw [nI_clamp (n := k3) (by omega)]
                            refine lv_topi (fun v210 ev210 => ?_)
                            obtain rfl : v210 = (-1) := by
                              rw [ev210, ← eI187]; simp [va_up, upd]
                            refine lv_iconst (v := (-1)) hx hb dX9_keeps_211 (by decide) ?_
                            refine lv_icmp_ne (tgt := 219) hx hb dX9_keeps_212 (by decide) (fun c212 => ?_) (fun c212 => ?_)
                            · skip
                              exact absurd c212 (by decide)
                            · skip
                              refine lv_iconst (v := 2) hx hb dX9_keeps_215 (by decide) ?_
                              refine lv_goto (tgt := 220) hx hb dX9_keeps_216 (by decide) ?_
                              refine va_iast (D := D) hx hb hK hP hD hS 75 0 (wd_75 y ad cap I187 J40) rfl (vp_in_nI (by omega) (by omega)) dX9_keeps_220 (fun H locs hP hD hS => ?_)
                              rw [nI_clamp (n := k3) (by omega)] at hP hD
                              rw [ws_75] at hP hD
                              generalize eI220 : va_up I187 75 (upd (I187 75) k3 2) = I220 at hP hD
                              refine lv_aload_n hx hb dX9_keeps_221 rfl (lv_at hl 0 rfl) ?_
                              refine va_get (D := D) (T := TX9) (N := 51) hx hb hts jnX9 hown hK hP 55 (wd_55 y ad cap I220 J40) rfl 37 (by decide) (hts _ fl_X9_72) (fun _ h9 => h9) rfl dX9_keeps_222 ?_
                              refine lv_iload_n hx hb dX9_keeps_225 rfl (lv_at hl 2 rfl) ?_
                              refine va_iald (D := D) hx hb hK hP 76 0 (wd_76 y ad cap I220 J40) rfl (vp_in_nI (by omega) (by omega)) dX9_keeps_226 ?_
                              rw [nI_clamp (n := k3) (by omega)]
                              refine lv_topi (fun v226 ev226 => ?_)
                              obtain rfl : v226 = (-1) := by
                                rw [ev226, ← eI220, ← eI187]; simp [va_up, upd]
                              refine lv_iconst (v := (-1)) hx hb dX9_keeps_227 (by decide) ?_
                              refine lv_icmp_eq (tgt := 246) hx hb dX9_keeps_228 (by decide) (fun c228 => ?_) (fun c228 => ?_)
                              · skip
                                refine lv_iload_n hx hb dX9_keeps_246 rfl (lv_at hl 1 rfl) ?_
                                refine lv_aload_n hx hb dX9_keeps_247 rfl (lv_at hl 0 rfl) ?_
                                refine va_get (D := D) (T := TX9) (N := 51) hx hb hts jnX9 hown hK hP 55 (wd_55 y ad cap I220 J40) rfl 36 (by decide) (hts _ fl_X9_69) (fun _ h9 => h9) rfl dX9_keeps_248 ?_
                                refine lv_iload_n hx hb dX9_keeps_251 rfl (lv_at hl 2 rfl) ?_
                                refine va_iald (D := D) hx hb hK hP 75 0 (wd_75 y ad cap I220 J40) rfl (vp_in_nI (by omega) (by omega)) dX9_keeps_252 ?_
                                rw [nI_clamp (n := k3) (by omega)]
                                refine lv_topi (fun v252 ev252 => ?_)
                                obtain rfl : v252 = 2 := by
                                  rw [ev252, ← eI220]; simp [va_up, upd]
                                refine lv_iconst (v := 2) hx hb dX9_keeps_253 (by decide) ?_
                                refine lv_icmp_ne (tgt := 261) hx hb dX9_keeps_254 (by decide) (fun c254 => ?_) (fun c254 => ?_)
                                · skip
                                  exact absurd c254 (by decide)
                                · skip
                                  refine lv_iconst (v := 1) hx hb dX9_keeps_257 (by decide) ?_
                                  refine lv_goto (tgt := 262) hx hb dX9_keeps_258 (by decide) ?_
                                  refine lv_iadd hx hb dX9_keeps_262 ?_
                                  refine lv_topi (fun v262 ev262 => ?_)
                                  obtain rfl : v262 = (nI (wc T M 2 k3 + 1)) := by
                                    rw [ev262]; exact nI_add _ _
                                  refine lv_istore_n (lv' := [(1, .int (nI (wc T M 2 k3 + 1))), (0, .ref (ad 55)), (2, .int (nI k3))]) hx hb dX9_keeps_263 rfl hl (by decide) rfl (fun ls hl => ?_)
                                  refine lv_iinc (v := (nI (k3 + 1))) (lv' := [(2, .int (nI (k3 + 1))), (1, .int (nI (wc T M 2 k3 + 1))), (0, .ref (ad 55))]) hx hb dX9_keeps_264 hl (k := 2) rfl (nI_1 _) (by decide) rfl (fun ls hl => ?_)
                                  refine lv_goto (tgt := 129) hx hb dX9_keeps_267 (by decide) ?_
                                  obtain ⟨s1, s2, s3⟩ := RVM_step hRV (v3 := (-1)) (v4 := 2) (by rw [hrt]; rfl) (by rw [hwy]; rfl) eI148 eI160 eI187 eI220
                                  have ew : wc T M 2 (k3 + 1) = wc T M 2 k3 + 1 := by simp only [wc, hwy]; rfl
                                  exact ih129 (k3 + 1) I220 (by omega) ⟨s1, fun t ht => by rw [s2]; simp only [us, hrt]; exact hRV.2 t ht⟩ (EqX.tr2 hEb s3 (by decide) (by decide)) (by omega) _ _ hP hD hS ls (by rw [ew]; exact lv_sub hl [2, 1, 0] rfl)
                              · skip
                                exact absurd c228 (by decide)
                          · skip
                            exact absurd c198 (by decide)
                        · skip
                          exact absurd c171 (by decide)
                      | some t0 =>
                        obtain ⟨hwy, hrt⟩ := wy_thk hdr hbt
                        have ht0 := bst_lt _ _ hbt
                        have hus := us_le2 (T := T) (M := M) (t := t0) (show k3 ≤ 200 by omega)
                        refine lv_aload_n hx hb dX9_keeps_161 rfl (lv_at hl 0 rfl) ?_
                        refine va_get (D := D) (T := TX9) (N := 51) hx hb hts jnX9 hown hK hP 55 (wd_55 y ad cap I160 J40) rfl 37 (by decide) (hts _ fl_X9_72) (fun _ h9 => h9) rfl dX9_keeps_162 ?_
                        refine lv_iload_n hx hb dX9_keeps_165 rfl (lv_at hl 2 rfl) ?_
                        refine lv_aload_n hx hb dX9_keeps_166 rfl (lv_at hl 0 rfl) ?_
                        refine lv_iload_n hx hb dX9_keeps_167 rfl (lv_at hl 2 rfl) ?_
                        refine rk_i (run_v (As := [.int (nI k3)]) (rest := [.int (nI k3), .ref (ad 76)]) (b := (ad 55)) hx hb hml hown hO.2 (c_X9_isDirect l D y ad cap I160 J40 hM160 hW0 hMA (by omega) (b0 := k3) (by omega)) k_X9_isDirect ml_X9_166 ⟨rfl, rfl⟩ ⟨Nat.le_of_ble_eq_true rfl, Nat.le_of_ble_eq_true rfl⟩ (pre_VR hO hP (wd_55 y ad cap I160 J40) rfl) rfl hl.1 rfl (Nat.le_of_ble_eq_true rfl) dX9_keeps_168 ⟨(Nat.zero_le _), (Nat.zero_le _)⟩) (fun r168 er168 => ?_)
                        try dsimp only at er168
                        obtain rfl : r168 = 0 := by
                          rw [er168, if_neg hdr]
                        refine lv_if_eq (tgt := 178) hx hb dX9_keeps_171 (by decide) (fun c171 => ?_) (fun c171 => ?_)
                        · skip
                          refine lv_aload_n hx hb dX9_keeps_178 rfl (lv_at hl 0 rfl) ?_
                          refine lv_iload_n hx hb dX9_keeps_179 rfl (lv_at hl 2 rfl) ?_
                          refine lv_aload_n hx hb dX9_keeps_180 rfl (lv_at hl 0 rfl) ?_
                          refine va_get (D := D) (T := TX9) (N := 51) hx hb hts jnX9 hown hK hP 55 (wd_55 y ad cap I160 J40) rfl 24 (by decide) (hts _ fl_X9_180) (fun _ h9 => h9) rfl dX9_keeps_181 ?_
                          refine lv_topi (fun v181 ev181 => ?_)
                          obtain rfl : v181 = (nI M.length) := by
                            rw [ev181]; exact h160_24
                          refine rk_i (run_v (As := [.int (nI k3), .int (nI M.length)]) (rest := [.int (nI k3), .ref (ad 76)]) (b := (ad 55)) hx hb hml hown hO.2 (c_X9_thunkFor l D y ad cap I160 J40 (M := M) (F := []) hM160 hW0 hMA (by rw [List.append_nil]; omega) (by rw [List.append_nil]; exact hTWM) hMT160 htz0 (b0 := k3) (by omega)) k_X9_thunkFor ml_X9_170 ⟨rfl, rfl⟩ ⟨Nat.le_of_ble_eq_true rfl, Nat.le_of_ble_eq_true rfl⟩ (pre_VR hO hP (wd_55 y ad cap I160 J40) rfl) rfl hl.1 rfl (Nat.le_of_ble_eq_true rfl) dX9_keeps_184 ⟨(Nat.zero_le _), (Nat.zero_le _)⟩) (fun r184 er184 => ?_)
                          try dsimp only at er184
                          obtain rfl : r184 = (nI t0) := by
                            rw [er184, hbt]; rfl
                          refine va_iast (D := D) hx hb hK hP hD hS 76 0 (wd_76 y ad cap I160 J40) rfl (vp_in_nI (by omega) (by omega)) dX9_keeps_187 (fun H locs hP hD hS => ?_)
                          rw [nI_clamp (n := k3) (by omega)] at hP hD
                          rw [ws_76] at hP hD
                          generalize eI187 : va_up I160 76 (upd (I160 76) k3 (nI t0)) = I187 at hP hD
                          have hM187 : RM I187 T := RM_eqx hM160 (fun j h1 h2 => by rw [← eI187]; simp only [va_up]; rw [if_neg (by omega)]) (fun k _ => by rw [← eI187]; simp only [va_up]; rw [if_neg (by decide)])
                          refine lv_aload_n hx hb dX9_keeps_188 rfl (lv_at hl 0 rfl) ?_
                          refine va_get (D := D) (T := TX9) (N := 51) hx hb hts jnX9 hown hK hP 55 (wd_55 y ad cap I187 J40) rfl 36 (by decide) (hts _ fl_X9_69) (fun _ h9 => h9) rfl dX9_keeps_189 ?_
                          refine lv_iload_n hx hb dX9_keeps_192 rfl (lv_at hl 2 rfl) ?_
                          refine lv_aload_n hx hb dX9_keeps_193 rfl (lv_at hl 0 rfl) ?_
                          refine lv_iload_n hx hb dX9_keeps_194 rfl (lv_at hl 2 rfl) ?_
                          refine rk_i (run_v (As := [.int (nI k3)]) (rest := [.int (nI k3), .ref (ad 75)]) (b := (ad 55)) hx hb hml hown hO.2 (c_X9_isDirect l D y ad cap I187 J40 hM187 hW0 hMA (by omega) (b0 := k3) (by omega)) k_X9_isDirect ml_X9_166 ⟨rfl, rfl⟩ ⟨Nat.le_of_ble_eq_true rfl, Nat.le_of_ble_eq_true rfl⟩ (pre_VR hO hP (wd_55 y ad cap I187 J40) rfl) rfl hl.1 rfl (Nat.le_of_ble_eq_true rfl) dX9_keeps_195 ⟨(Nat.zero_le _), (Nat.zero_le _)⟩) (fun r195 er195 => ?_)
                          try dsimp only at er195
                          obtain rfl : r195 = 0 := by
                            rw [er195, if_neg hdr]
                          refine lv_if_eq (tgt := 205) hx hb dX9_keeps_198 (by decide) (fun c198 => ?_) (fun c198 => ?_)
                          · skip
                            refine lv_aload_n hx hb dX9_keeps_205 rfl (lv_at hl 0 rfl) ?_
                            refine va_get (D := D) (T := TX9) (N := 51) hx hb hts jnX9 hown hK hP 55 (wd_55 y ad cap I187 J40) rfl 37 (by decide) (hts _ fl_X9_72) (fun _ h9 => h9) rfl dX9_keeps_206 ?_
                            refine lv_iload_n hx hb dX9_keeps_209 rfl (lv_at hl 2 rfl) ?_
                            refine va_iald (D := D) hx hb hK hP 76 0 (wd_76 y ad cap I187 J40) rfl (vp_in_nI (by omega) (by omega)) dX9_keeps_210 ?_
                            rw [nI_clamp (n := k3) (by omega)]
                            refine lv_topi (fun v210 ev210 => ?_)
                            obtain rfl : v210 = (nI t0) := by
                              rw [ev210, ← eI187]; simp [va_up, upd]
                            refine lv_iconst (v := (-1)) hx hb dX9_keeps_211 (by decide) ?_
                            refine lv_icmp_ne (tgt := 219) hx hb dX9_keeps_212 (by decide) (fun c212 => ?_) (fun c212 => ?_)
                            · skip
                              refine lv_iconst (v := 1) hx hb dX9_keeps_219 (by decide) ?_
                              refine va_iast (D := D) hx hb hK hP hD hS 75 0 (wd_75 y ad cap I187 J40) rfl (vp_in_nI (by omega) (by omega)) dX9_keeps_220 (fun H locs hP hD hS => ?_)
                              rw [nI_clamp (n := k3) (by omega)] at hP hD
                              rw [ws_75] at hP hD
                              generalize eI220 : va_up I187 75 (upd (I187 75) k3 1) = I220 at hP hD
                              refine lv_aload_n hx hb dX9_keeps_221 rfl (lv_at hl 0 rfl) ?_
                              refine va_get (D := D) (T := TX9) (N := 51) hx hb hts jnX9 hown hK hP 55 (wd_55 y ad cap I220 J40) rfl 37 (by decide) (hts _ fl_X9_72) (fun _ h9 => h9) rfl dX9_keeps_222 ?_
                              refine lv_iload_n hx hb dX9_keeps_225 rfl (lv_at hl 2 rfl) ?_
                              refine va_iald (D := D) hx hb hK hP 76 0 (wd_76 y ad cap I220 J40) rfl (vp_in_nI (by omega) (by omega)) dX9_keeps_226 ?_
                              rw [nI_clamp (n := k3) (by omega)]
                              refine lv_topi (fun v226 ev226 => ?_)
                              obtain rfl : v226 = (nI t0) := by
                                rw [ev226, ← eI220, ← eI187]; simp [va_up, upd]
                              refine lv_iconst (v := (-1)) hx hb dX9_keeps_227 (by decide) ?_
                              refine lv_icmp_eq (tgt := 246) hx hb dX9_keeps_228 (by decide) (fun c228 => ?_) (fun c228 => ?_)
                              · skip
                                exact absurd c228 (nI_n1 (by omega))
                              · skip
                                refine lv_aload_n hx hb dX9_keeps_231 rfl (lv_at hl 0 rfl) ?_
                                refine va_get (D := D) (T := TX9) (N := 51) hx hb hts jnX9 hown hK hP 55 (wd_55 y ad cap I220 J40) rfl 47 (by decide) (hts _ fl_X9_96) (fun _ h9 => h9) rfl dX9_keeps_232 ?_
                                refine lv_aload_n hx hb dX9_keeps_235 rfl (lv_at hl 0 rfl) ?_
                                refine va_get (D := D) (T := TX9) (N := 51) hx hb hts jnX9 hown hK hP 55 (wd_55 y ad cap I220 J40) rfl 37 (by decide) (hts _ fl_X9_72) (fun _ h9 => h9) rfl dX9_keeps_236 ?_
                                refine lv_iload_n hx hb dX9_keeps_239 rfl (lv_at hl 2 rfl) ?_
                                refine va_iald (D := D) hx hb hK hP 76 0 (wd_76 y ad cap I220 J40) rfl (vp_in_nI (by omega) (by omega)) dX9_keeps_240 ?_
                                rw [nI_clamp (n := k3) (by omega)]
                                refine lv_topi (fun v240 ev240 => ?_)
                                obtain rfl : v240 = (nI t0) := by
                                  rw [ev240, ← eI220, ← eI187]; simp [va_up, upd]
                                refine lv_dup2_11 hx hb dX9_keeps_241 rfl rfl ?_
                                refine va_iald (D := D) hx hb hK hP 84 0 (wd_84 y ad cap I220 J40) rfl (vp_in_nI (by omega) (by omega)) dX9_keeps_242 ?_
                                rw [nI_clamp (n := t0) (by omega)]
                                refine lv_topi (fun v242 ev242 => ?_)
                                obtain rfl : v242 = (nI (us T M t0 k3)) := by
                                  rw [ev242, ← eI220, ← eI187, ← eI160, ← eI148]; simpa [va_up] using hRV.2 t0 ht0
                                refine lv_iconst (v := 1) hx hb dX9_keeps_243 (by decide) ?_
                                refine lv_iadd hx hb dX9_keeps_244 ?_
                                refine lv_topi (fun v244 ev244 => ?_)
                                obtain rfl : v244 = (nI ((us T M t0 k3) + 1)) := by rw [ev244, show (1 : Int32) = nI 1 from rfl, nI_add]
                                refine va_iast (D := D) hx hb hK hP hD hS 84 0 (wd_84 y ad cap I220 J40) rfl (vp_in_nI (by omega) (by omega)) dX9_keeps_245 (fun H locs hP hD hS => ?_)
                                rw [nI_clamp (n := t0) (by omega)] at hP hD
                                rw [ws_84] at hP hD
                                generalize eI245 : va_up I220 84 (upd (I220 84) t0 (nI ((us T M t0 k3) + 1))) = I245 at hP hD
                                refine lv_iload_n hx hb dX9_keeps_246 rfl (lv_at hl 1 rfl) ?_
                                refine lv_aload_n hx hb dX9_keeps_247 rfl (lv_at hl 0 rfl) ?_
                                refine va_get (D := D) (T := TX9) (N := 51) hx hb hts jnX9 hown hK hP 55 (wd_55 y ad cap I245 J40) rfl 36 (by decide) (hts _ fl_X9_69) (fun _ h9 => h9) rfl dX9_keeps_248 ?_
                                refine lv_iload_n hx hb dX9_keeps_251 rfl (lv_at hl 2 rfl) ?_
                                refine va_iald (D := D) hx hb hK hP 75 0 (wd_75 y ad cap I245 J40) rfl (vp_in_nI (by omega) (by omega)) dX9_keeps_252 ?_
                                rw [nI_clamp (n := k3) (by omega)]
                                refine lv_topi (fun v252 ev252 => ?_)
                                obtain rfl : v252 = 1 := by
                                  rw [ev252, ← eI245, ← eI220]; simp [va_up, upd]
                                refine lv_iconst (v := 2) hx hb dX9_keeps_253 (by decide) ?_
                                refine lv_icmp_ne (tgt := 261) hx hb dX9_keeps_254 (by decide) (fun c254 => ?_) (fun c254 => ?_)
                                · skip
                                  refine lv_iconst (v := 0) hx hb dX9_keeps_261 (by decide) ?_
                                  refine lv_iadd hx hb dX9_keeps_262 ?_
                                  refine lv_topi (fun v262 ev262 => ?_)
                                  obtain rfl : v262 = (nI (wc T M 2 k3 + 0)) := by
                                    rw [ev262]; exact nI_add _ _
                                  refine lv_istore_n (lv' := [(1, .int (nI (wc T M 2 k3 + 0))), (0, .ref (ad 55)), (2, .int (nI k3))]) hx hb dX9_keeps_263 rfl hl (by decide) rfl (fun ls hl => ?_)
                                  refine lv_iinc (v := (nI (k3 + 1))) (lv' := [(2, .int (nI (k3 + 1))), (1, .int (nI (wc T M 2 k3 + 0))), (0, .ref (ad 55))]) hx hb dX9_keeps_264 hl (k := 2) rfl (nI_1 _) (by decide) rfl (fun ls hl => ?_)
                                  refine lv_goto (tgt := 129) hx hb dX9_keeps_267 (by decide) ?_
                                  obtain ⟨s1, s2, s3⟩ := RVM_step hRV (v3 := (nI t0)) (v4 := 1) (by rw [hrt]; rfl) (by rw [hwy]; rfl) eI148 eI160 eI187 eI220
                                  have ew : wc T M 2 (k3 + 1) = wc T M 2 k3 + 0 := by simp only [wc, hwy]; rfl
                                  exact ih129 (k3 + 1) I245 (by omega) ⟨fun b hb => by subst eI245; simpa [va_up] using s1 b hb, fun t ht => by
                                    subst eI245
                                    by_cases hne : t = t0
                                    · subst hne
                                      simp [va_up, upd, us, hrt]
                                    · have hne2 : ¬ t0 = t := fun h9 => hne h9.symm
                                      have := hRV.2 t ht
                                      simp only [us, hrt]
                                      rw [if_neg (by simpa using hne2)]
                                      simpa [va_up, upd, hne, s2] using this⟩ (by subst eI245; exact EqX.up (EqX.tr2 hEb s3 (by decide) (by decide)) (by decide)) (by omega) _ _ hP hD hS ls (by rw [ew]; exact lv_sub hl [2, 1, 0] rfl)
                                · skip
                                  exact absurd c254 (by decide)
                            · skip
                              exact absurd c212 (nI_n1 (by omega))
                          · skip
                            exact absurd c198 (by decide)
                        · skip
                          exact absurd c171 (by decide)
              exact loop129 (T 0 2 + 1) 0 Ia (by omega) ⟨fun b hb => absurd hb (by omega), fun t ht => by rw [hEa 84 (by decide), hE9 84 (by decide), rj 84 (by decide), hU t ht]; rfl⟩ EqX.rf (by omega) _ _ hP hD hS ls (by exact lv_sub hl [2, 1, 0] rfl)
            · skip
              have c92 := mt (nI_leI (a := 8) (b := k2) (by omega) (by omega)).mpr c92
              refine lv_aload_n hx hb dX9_keeps_95 rfl (lv_at hl 0 rfl) ?_
              refine va_get (D := D) (T := TX9) (N := 51) hx hb hts jnX9 hown hK hP 55 (wd_55 y ad cap Ia J40) rfl 38 (by decide) (hts _ fl_X9_75) (fun _ h9 => h9) rfl dX9_keeps_96 ?_
              refine lv_iload_n hx hb dX9_keeps_99 rfl (lv_at hl 1 rfl) ?_
              refine lv_aload_n hx hb dX9_keeps_100 rfl (lv_at hl 0 rfl) ?_
              refine va_get (D := D) (T := TX9) (N := 51) hx hb hts jnX9 hown hK hP 55 (wd_55 y ad cap Ia J40) rfl 13 (by decide) (hts _ fl_X9_38) (fun _ h9 => h9) rfl dX9_keeps_101 ?_
              refine lv_iload_n hx hb dX9_keeps_104 rfl (lv_at hl 1 rfl) ?_
              refine va_iald (D := D) hx hb hK hP 65 0 (wd_65 y ad cap Ia J40) rfl (vp_in_nI (by omega) (by omega)) dX9_keeps_105 ?_
              rw [nI_clamp (n := k2) (by omega)]
              refine lv_topi (fun v105 ev105 => ?_)
              obtain rfl : v105 = (nI (stpN T k2)) := by
                rw [ev105]; exact (hMa.2.2.2.2 _ (by omega)).1
              refine va_iast (D := D) hx hb hK hP hD hS 77 0 (wd_77 y ad cap Ia J40) rfl (vp_in_nI (by omega) (by omega)) dX9_keeps_106 (fun H locs hP hD hS => ?_)
              rw [nI_clamp (n := k2) (by omega)] at hP hD
              rw [ws_77] at hP hD
              generalize eI106 : va_up Ia 77 (upd (Ia 77) k2 (nI (stpN T k2))) = I106 at hP hD
              refine lv_aload_n hx hb dX9_keeps_107 rfl (lv_at hl 0 rfl) ?_
              refine va_get (D := D) (T := TX9) (N := 51) hx hb hts jnX9 hown hK hP 55 (wd_55 y ad cap I106 J40) rfl 39 (by decide) (hts _ fl_X9_78) (fun _ h9 => h9) rfl dX9_keeps_108 ?_
              refine lv_iload_n hx hb dX9_keeps_111 rfl (lv_at hl 1 rfl) ?_
              refine lv_aload_n hx hb dX9_keeps_112 rfl (lv_at hl 0 rfl) ?_
              refine va_get (D := D) (T := TX9) (N := 51) hx hb hts jnX9 hown hK hP 55 (wd_55 y ad cap I106 J40) rfl 14 (by decide) (hts _ fl_X9_41) (fun _ h9 => h9) rfl dX9_keeps_113 ?_
              refine lv_iload_n hx hb dX9_keeps_116 rfl (lv_at hl 1 rfl) ?_
              refine va_iald (D := D) hx hb hK hP 66 0 (wd_66 y ad cap I106 J40) rfl (vp_in_nI (by omega) (by omega)) dX9_keeps_117 ?_
              rw [nI_clamp (n := k2) (by omega)]
              refine lv_topi (fun v117 ev117 => ?_)
              obtain rfl : v117 = (nI (T 11 k2)) := by
                rw [ev117, ← eI106]; simpa [va_up, upd] using (hMa.2.2.2.2 _ (by omega)).2
              refine va_iast (D := D) hx hb hK hP hD hS 78 0 (wd_78 y ad cap I106 J40) rfl (vp_in_nI (by omega) (by omega)) dX9_keeps_118 (fun H locs hP hD hS => ?_)
              rw [nI_clamp (n := k2) (by omega)] at hP hD
              rw [ws_78] at hP hD
              generalize eI118 : va_up I106 78 (upd (I106 78) k2 (nI (T 11 k2))) = I118 at hP hD
              refine lv_iinc (v := (nI (k2 + 1))) (lv' := [(1, .int (nI (k2 + 1))), (0, .ref (ad 55))]) hx hb dX9_keeps_119 hl (k := 1) rfl (nI_1 _) (by decide) rfl (fun ls hl => ?_)
              refine lv_goto (tgt := 89) hx hb dX9_keeps_122 (by decide) ?_
              exact ih89 (k2 + 1) I118 (by omega) (fun s hs => by subst eI118 eI106; rcases lt_s2 hs with h7 | h7; (subst h7; simp [va_up, upd]); (have hne : s ≠ k2 := by omega); simpa [va_up, upd, hne] using h77 s h7) (by subst eI118 eI106; refine EqX.up (EqX.up hEa ?_) ?_ <;> decide) (by omega) _ _ hP hD hS ls (by exact lv_sub hl [1, 0] rfl)
        exact loop89 (8 + 1) 0 I9 (by omega) (fun s hs => absurd hs (by omega)) EqX.rf (by omega) _ _ hP hD hS ls (by exact lv_sub hl [1, 0] rfl)
      · skip
        have c66 := mt (nI_leI (a := (T 0 0)) (b := k) (by omega) (by omega)).mpr c66
        obtain ⟨y3, y4, y5⟩ := wS k (by omega)
        refine lv_aload_n hx hb dX9_keeps_69 rfl (lv_at hl 0 rfl) ?_
        refine va_get (D := D) (T := TX9) (N := 51) hx hb hts jnX9 hown hK hP 55 (wd_55 y ad cap I9 J40) rfl 30 (by decide) (hts _ fl_X9_51) (fun _ h9 => h9) rfl dX9_keeps_70 ?_
        refine lv_iload_n hx hb dX9_keeps_73 rfl (lv_at hl 1 rfl) ?_
        refine lv_aload_n hx hb dX9_keeps_74 rfl (lv_at hl 0 rfl) ?_
        refine va_get (D := D) (T := TX9) (N := 51) hx hb hts jnX9 hown hK hP 55 (wd_55 y ad cap I9 J40) rfl 6 (by decide) (hts _ fl_X9_16) (fun _ h9 => h9) rfl dX9_keeps_75 ?_
        refine lv_iload_n hx hb dX9_keeps_78 rfl (lv_at hl 1 rfl) ?_
        refine va_zald (D := D) hx hb hK hP 58 2 (wd_58 y ad cap I9 J40) rfl (vp_in_nI (by omega) (by omega)) dX9_keeps_79 ?_
        rw [nI_clamp (n := k) (by omega)]
        refine lv_topi (fun v79 ev79 => ?_)
        obtain rfl : v79 = (nI (T 3 k)) := by
          rw [ev79]; exact (hM9.2.1 _ (by omega)).2.2
        refine va_zast (D := D) hx hb hK hP hD hS 69 2 (wd_69 y ad cap I9 J40) rfl (vp_in_nI (by omega) (by omega)) dX9_keeps_80 (fun H locs hP hD hS => ?_)
        rw [nI_clamp (n := k) (by omega)] at hP hD
        rw [nar01 y5] at hP hD
        rw [ws_69] at hP hD
        generalize eI80 : va_up I9 69 (upd (I9 69) k (nI (T 3 k))) = I80 at hP hD
        refine lv_iinc (v := (nI (k + 1))) (lv' := [(1, .int (nI (k + 1))), (0, .ref (ad 55))]) hx hb dX9_keeps_81 hl (k := 1) rfl (nI_1 _) (by decide) rfl (fun ls hl => ?_)
        refine lv_goto (tgt := 61) hx hb dX9_keeps_84 (by decide) ?_
        exact ih61 (k + 1) I80 (by omega) (fun s hs => by subst eI80; rcases lt_s2 hs with h7 | h7; (subst h7; simp [va_up, upd]); (have hne : s ≠ k := by omega); simpa [va_up, upd, hne] using h69 s h7) (by subst eI80; exact EqX.up hE9 (by decide)) (by omega) _ _ hP hD hS ls (by exact lv_sub hl [1, 0] rfl)
  exact loop61 (T 0 0 + 1) 0 I56 (by omega) (fun s hs => absurd hs (by omega)) EqX.rf (by omega) _ _ hP hD hS ls (by exact lv_sub hl [1, 0] rfl)
