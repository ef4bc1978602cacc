def rnG (T : Nat → Nat → Nat) (M : List Th) (r k : Nat) : List Th := if T 0 5 = 0 then [] else rnd T M r k
theorem rnG_TW {T : Nat → Nat → Nat} {M : List Th} {r : Nat} (hW : WF T) (hr : r ≤ 2401) (h : TW T M) {k : Nat} (hk : k ≤ T 0 2) : TW T (M ++ rnG T M r k) := by
  unfold rnG
  split
  · rw [List.append_nil]
    exact h
  · exact rnd_TW hW hr h k hk
theorem rnG_same {T : Nat → Nat → Nat} {M : List Th} {r k : Nat} (h : T 0 5 = 0 ∨ dirB T (cnt M) k = true ∨ ¬ bst T M k (T 0 0) = none) : rnG T M r (k + 1) = rnG T M r k := by
  unfold rnG
  by_cases hz : T 0 5 = 0
  · rw [if_pos hz, if_pos hz]
  · rw [if_neg hz, if_neg hz]
    simp only [rnd, stp]
    rw [if_pos (h.resolve_left hz)]
theorem rnG_add {T : Nat → Nat → Nat} {M : List Th} {r k : Nat} (hz : ¬ T 0 5 = 0) (h1 : ¬ dirB T (cnt M) k = true) (h2 : bst T M k (T 0 0) = none) : rnG T M r (k + 1) = rnG T M r k ++ oneT (wntO T M (rnG T M r k) k) (T 9 k) r k := by
  rw [← wntL_O]
  unfold rnG
  rw [if_neg hz, if_neg hz]
  simp only [rnd, stp]
  rw [if_neg (fun h9 => h9.elim h1 (fun h8 => h8 h2))]
theorem rk_last (L : List Th) (x : Th) : rk (L ++ [x]) L.length = cnt L x.1 := by
  unfold rk
  rw [thA_last, List.take_left]
theorem MT_add {I I1 I2 I3 I4 I5 I6 I7 : Nat → Nat → Int32} {L : List Th} {s l r b : Nat} (h : MT I L) (hU : ∀ t, t < L.length → I 84 t = 0) (e1 : va_up I 80 (upd (I 80) L.length (nI s)) = I1) (e2 : va_up I1 81 (upd (I1 81) L.length (nI l)) = I2) (e3 : va_up I2 82 (upd (I2 82) L.length (nI r)) = I3) (e4 : va_up I3 83 (upd (I3 83) L.length (nI b)) = I4) (e5 : va_up I4 84 (upd (I4 84) L.length 0) = I5) (e6 : va_up I5 85 (upd (I5 85) L.length (nI (cnt L s))) = I6) (e7 : va_up I6 55 (upd (I6 55) 49 (nI (L.length + 1))) = I7) : MT I7 (L ++ [(s, l, r, b)]) ∧ (∀ t, t < (L ++ [(s, l, r, b)]).length → I7 84 t = 0) ∧ I7 55 49 = nI (L ++ [(s, l, r, b)]).length ∧ EqX [55, 80, 81, 82, 83, 84, 85] I I7 ∧ ∀ k, k ≠ 49 → I7 55 k = I 55 k := by
  subst e1 e2 e3 e4 e5 e6 e7
  refine ⟨fun t ht => ?_, fun t ht => ?_, ?_, ?_, ?_⟩
  · rw [List.length_append, List.length_singleton] at ht
    rcases lt_s2 ht with rfl | h9
    · rw [thA_last, rk_last]
      simp [va_up, upd]
    · have hne : t ≠ L.length := by omega
      rw [thA_app h9, rk_app h9]
      simpa [va_up, upd, hne] using h t h9
  · rw [List.length_append, List.length_singleton] at ht
    rcases lt_s2 ht with rfl | h9
    · simp [va_up, upd]
    · have hne : t ≠ L.length := by omega
      simpa [va_up, upd, hne] using hU t h9
  · rw [List.length_append, List.length_singleton]
    simp [va_up, upd]
  · refine EqX.up (EqX.up (EqX.up (EqX.up (EqX.up (EqX.up (EqX.up EqX.rf ?_) ?_) ?_) ?_) ?_) ?_) ?_ <;> decide
  · intro k hk
    simp [va_up, upd, hk]
theorem wntO_lt {T : Nat → Nat → Nat} {M F : List Th} {b s : Nat} (h : wntO T M F b = some s) : s < T 0 0 := by
  unfold wntO at h
  split at h
  · cases h
  · exact (wst_lt _ _ h).1
set_option maxHeartbeats 4000000 in
set_option maxRecDepth 100000 in
theorem c_X9_lay (l : Launch) (D : va_G) (y : Nat → ClassId) (ad : Nat → Nat) (cap : Nat → Nat) (I : Nat → Nat → Int32) (J : Nat → Nat → Int64) (sz : Nat) {T : Nat → Nat → Nat} (hM : RM I T) (hW : WF T) : Met l yX9_lay [.code yX9_lay cX9_lay 8 (some .int)] ({ frames := 3, cells := 0, slots := 0, locals := 76 }) (va_Pc [.ref (ad 55)] (PW D y (Wd y ad cap I J) sz)) (va_Qi (fun (r : Int32) (u : St4) => ∃ I' J', u = (ad, cap, I', J') ∧ r = nI (wc T (layM T) 2 (T 0 2)) ∧ ML I' J' T (layM T) (stopR T + 1) ∧ RM I' T ∧ I' 55 19 = 0 ∧ EqX [55, 69, 73, 74, 75, 76, 77, 78, 80, 81, 82, 83, 84, 85] I I' ∧ EqJ [55, 67, 68, 70, 71, 72, 79] J J') (Aft D (Wt y) (Wd y ad cap I J) sz) (va_A (Wd y ad cap I J) sz)) 0 0 (va_A (Wd y ad cap I J) sz) := by
  refine Met.ofW (cc := cX9_lay) (maxL := 8) (ret := (some .int)) (by decide) rfl ?_
  intro p e s m args below meth c s₁ B hml hv
  obtain ⟨rfl, rfl, hP, hD0, hO⟩ := hv
  have hx := B.exec
  have hb := B.bytes
  have hr := B.returns
  have hown : s.vm.findClass RX9 = some m.cls := findClass_of_methodNamed B.named
  have hlocks := B.notSynchronized
  have hK := hO.1
  have hts : ∀ w ∈ lw_E, w.before ([.ref (ad 55)] : List Value).toArray s = true := fun w h => hO.2 w h _
  clear B
  have hD := hD0.self (sz := s.heap.size)
  generalize hAe : va_A (Wd y ad cap I J) s.heap.size = A at hD ⊢
  have hA : ∀ q : Nat, s.heap.size ≤ q → A q := fun q h => by rw [← hAe]; exact Or.inr h
  have hS : va_S A s.heap s.heap [] := va_S.rf
  have hl := lv_entry ([.ref (ad 55)]) (n := 8) (Nat.le_of_ble_eq_true rfl)
  rw [lg_entry_eq]
  generalize (lg_sl ([.ref (ad 55)]) ++ List.replicate (8 - (lg_sl ([.ref (ad 55)])).length) Slot.unset).toArray = ls at hl ⊢
  have hl : lv_has ls 8 [(0, .ref (ad 55))] := hl
  have hW0 := hW
  obtain ⟨⟨w1, w2, w3, w4, w5, w6, w7⟩, wS, wL, wB, wK, wTk, wT0⟩ := hW
  refine lv_iconst (v := 0) hx hb dX9_lay_0 (by decide) ?_
  rw [show (0 : Int32) = (nI ((lays T 0).length)) from rfl]
  refine lv_istore_n (lv' := [(1, .int (nI ((lays T 0).length))), (0, .ref (ad 55))]) hx hb dX9_lay_1 rfl hl (by decide) rfl (fun ls hl => ?_)
  refine lv_iconst (v := 0) hx hb dX9_lay_2 (by decide) ?_
  rw [show (0 : Int32) = (nI 0) from rfl]
  refine lv_istore_n (lv' := [(2, .int (nI 0)), (1, .int (nI ((lays T 0).length))), (0, .ref (ad 55))]) hx hb dX9_lay_3 rfl hl (by decide) rfl (fun ls hl => ?_)
  refine lv_iconst (v := 1) hx hb dX9_lay_4 (by decide) ?_
  rw [show (1 : Int32) = (nI 1) from rfl]
  refine lv_istore_n (lv' := [(3, .int (nI 1)), (2, .int (nI 0)), (1, .int (nI ((lays T 0).length))), (0, .ref (ad 55))]) hx hb dX9_lay_5 rfl hl (by decide) rfl (fun ls hl => ?_)
  have loop6 : ∀ (n6 : Nat) (r : Nat) (e9 : Nat) (I9 : Nat → Nat → Int32) (J9 : Nat → Nat → Int64) , (e9 ≤ 1) → (r ≤ 2401) → (e9 = 1 → ∀ q, q < r → ¬ rndF T (lays T q) (q + 1) = []) → (e9 = 0 → r = stopR T + 1 ∧ lays T r = layM T ∧ MA J9 T (layM T)) → (MT I9 (lays T r)) → (∀ t, t < (lays T r).length → I9 84 t = 0) → (EqX [55, 80, 81, 82, 83, 84, 85] I I9) → (∀ q, q ≠ 49 → I9 55 q = I 55 q) → (EqJ [55, 67, 68, 70, 71, 72, 79] J J9) → (∀ q, q ≠ 27 → J9 55 q = J 55 q) → 2403 ≤ r + n6 → ∀ (H : Heap) (locs : List Loc), va_P D vwCl (Wd y ad cap I9 J9) H → va_D A (Wd y ad cap I9 J9) → va_S A s.heap H locs → ∀ ls : Array Slot, lv_has ls 8 [(0, .ref (ad 55)), (1, .int (nI ((lays T r).length))), (2, .int (nI r)), (3, .int (nI e9))] → W p l e (headSpec [.code yX9_lay cX9_lay 8 (some .int)] ({ frames := 3, cells := 0, slots := 0, locals := 76 })).room s m ([.ref (ad 55)] : List Value).toArray below meth c H locs 0 0 (MQ below (va_Qi (fun (r : Int32) (u : St4) => ∃ I' J', u = (ad, cap, I', J') ∧ r = nI (wc T (layM T) 2 (T 0 2)) ∧ ML I' J' T (layM T) (stopR T + 1) ∧ RM I' T ∧ I' 55 19 = 0 ∧ EqX [55, 69, 73, 74, 75, 76, 77, 78, 80, 81, 82, 83, 84, 85] I I' ∧ EqJ [55, 67, 68, 70, 71, 72, 79] J J') (Aft D (Wt y) (Wd y ad cap I J) s.heap.size) A) ([.ref (ad 55)] : List Value).toArray s 0 0 A) (F0 m 6 ls []) := by
    intro n6
    induction n6 with
    | zero =>
      intro r e9 I9 J9 he hrr h1 h0 hMT9 hU9 hE9 h55 hEJ9 hj55 hmeas
      exact absurd hmeas (by omega)
    | succ n6 ih6 =>
      intro r e9 I9 J9 he hrr h1 h0 hMT9 hU9 hE9 h55 hEJ9 hj55 hmeas H locs hP hD hS ls hl
      refine lv_iload_n hx hb dX9_lay_6 rfl (lv_at hl 3 rfl) ?_
      refine lv_if_eq (tgt := 233) hx hb dX9_lay_7 (by decide) (fun c7 => ?_) (fun c7 => ?_)
      · skip
        have he0 : e9 = 0 := (nI_z (by omega)).mp c7
        obtain ⟨hr0, hLM, hMA9⟩ := h0 he0
        have hlenL := TW_len hW0 (lays_TW hW0 r (by omega))
        refine lv_aload_n hx hb dX9_lay_233 rfl (lv_at hl 0 rfl) ?_
        refine lv_iload_n hx hb dX9_lay_234 rfl (lv_at hl 2 rfl) ?_
        refine va_put (D := D) (T := TX9) (N := 51) (v := .int (nI r)) (ty := .int) hx hb hts jnX9 tyX9 tyX9_ok nmX9 hown hK hP hD hS 55 (wd_55 y ad cap I9 J9) rfl 25 (by decide) (hts _ fl_X9_177) (fun _ h9 => h9) rfl (by decide +kernel) rfl rfl (Nat.le_of_ble_eq_true rfl) dX9_lay_235 (fun H locs hP hD hS => ?_)
        rw [wp_55_25] at hP hD
        generalize eI235 : va_up I9 55 (upd (I9 55) 25 (nI r)) = I235 at hP hD
        refine lv_aload_n hx hb dX9_lay_238 rfl (lv_at hl 0 rfl) ?_
        refine lv_iload_n hx hb dX9_lay_239 rfl (lv_at hl 1 rfl) ?_
        refine va_put (D := D) (T := TX9) (N := 51) (v := .int (nI ((lays T r).length))) (ty := .int) hx hb hts jnX9 tyX9 tyX9_ok nmX9 hown hK hP hD hS 55 (wd_55 y ad cap I235 J9) rfl 24 (by decide) (hts _ fl_X9_180) (fun _ h9 => h9) rfl (by decide +kernel) rfl rfl (Nat.le_of_ble_eq_true rfl) dX9_lay_240 (fun H locs hP hD hS => ?_)
        rw [wp_55_24] at hP hD
        generalize eI240 : va_up I235 55 (upd (I235 55) 24 (nI ((lays T r).length))) = I240 at hP hD
        have hM240 : RM I240 T := RM_eqx hM (fun j h1 h2 => by rw [← eI240, ← eI235]; simp only [va_up]; rw [if_neg (by omega), if_neg (by omega), hE9 j (by simp; omega)]) (fun q hq => by rw [← eI240, ← eI235]; simp [va_up, upd, show q ≠ 24 by omega, show q ≠ 25 by omega]; exact h55 q (by omega))
        have e240 : ∀ j, j ≠ 55 → I240 j = I9 j := fun j hj => by rw [← eI240, ← eI235]; simp only [va_up]; rw [if_neg hj, if_neg hj]
        rw [hLM] at hMT9 hU9
        have hMT240 : MT I240 (layM T) := by
          unfold MT at hMT9 ⊢
          simp only [e240 80 (by decide), e240 81 (by decide), e240 82 (by decide), e240 83 (by decide), e240 85 (by decide)]
          exact hMT9
        have hU240 : ∀ t, t < (layM T).length → I240 84 t = 0 := fun t ht => by rw [e240 84 (by decide)]; exact hU9 t ht
        have hTWM : TW T (layM T) := lays_TW hW0 _ (by have := stop_le hW0; omega)
        have v24 : I240 55 24 = nI (layM T).length := by rw [← eI240, hLM]; simp [va_up, upd]
        have v25 : I240 55 25 = nI (stopR T + 1) := by rw [← eI240, ← eI235]; simp [va_up, upd, hr0]
        refine lv_aload_n hx hb dX9_lay_243 rfl (lv_at hl 0 rfl) ?_
        refine wk_i (Wf := Wt y) (run_v (As := []) (rest := []) (b := (ad 55)) hx hb hml hown hO.2 (c_X9_keeps l D y ad cap I240 J9 H.size hM240 hW0 hTWM hMT240 (fun h9 => lays_tz _ h9) hMA9 hU240 v24 v25) k_X9_keeps ml_X9_183 ⟨rfl, rfl⟩ ⟨Nat.le_of_ble_eq_true rfl, Nat.le_of_ble_eq_true rfl⟩ (pre_VW hO hP hD (wd_55 y ad cap I240 J9) rfl) rfl hl.1 rfl (Nat.le_of_ble_eq_true rfl) dX9_lay_244 ⟨(Nat.zero_le _), (Nat.zero_le _)⟩) hD hS hA (fun r244 u244 H locs hp244 hP hD hS => ?_)
        try dsimp only at hp244
        obtain ⟨I244, J244, rfl, er244, hML, hM244, h19, hE244, hEJ244, hj244⟩ := hp244
        have hP : va_P D vwCl (Wd y ad cap I244 J244) H := hP
        have hD : va_D A (Wd y ad cap I244 J244) := hD
        refine W.iret (v := r244) hx hb hr (fun t ht hW => ⟨⟨_, (ad, cap, I244, J244), rfl, ?_, by rw [ht]; exact hP, by show va_D (va_A (Wd y ad cap I J) s.heap.size) _; rw [hAe]; exact hD⟩, hS.F ht⟩) hS.2.2 dX9_lay_247
        refine ⟨I244, J244, rfl, er244, hML, hM244, h19, ?_, ?_⟩
        · intro j hj
          simp at hj
          rw [hE244 j (by simp; omega), e240 j (by omega), hE9 j (by simp; omega)]
        · intro j hj
          simp at hj
          rw [hEJ244 j (by simp; omega), hEJ9 j (by simp; omega)]
      · skip
        have he1 : e9 = 1 := by have := mt (nI_z (by omega)).mpr c7; omega
        have hq9 := h1 he1
        have hst24 := stop_le hW0
        have hrs := stop_is hW0 hq9
        have hr24 : r ≤ 2400 := by have := hrs.1; omega
        have hTWr := lays_TW hW0 r (by omega)
        have hlen9 := TW_len hW0 hTWr
        have hM9 : RM I9 T := RM_eqx hM (fun j h1 h2 => hE9 j (by simp; omega)) (fun k hk => h55 k (by omega))
        have htz0 := lays_tz (T := T) r
        refine lv_iinc (v := (nI (r + 1))) (lv' := [(2, .int (nI (r + 1))), (0, .ref (ad 55)), (1, .int (nI ((lays T r).length))), (3, .int (nI e9))]) hx hb dX9_lay_10 hl (k := 2) rfl (nI_1 _) (by decide) rfl (fun ls hl => ?_)
        refine lv_aload_n hx hb dX9_lay_13 rfl (lv_at hl 1 rfl) ?_
        refine lv_iload_n hx hb dX9_lay_14 rfl (lv_at hl 2 rfl) ?_
        refine wk_v (Wf := Wt y) (run_v (As := [.int (nI ((lays T r).length))]) (rest := []) (b := (ad 55)) hx hb hml hown hO.2 (c_X9_addresses l D y ad cap I9 J9 H.size hM9 hW0 hTWr hMT9 htz0) k_X9_addresses ml_X9_162 ⟨rfl, rfl⟩ ⟨Nat.le_of_ble_eq_true rfl, Nat.le_of_ble_eq_true rfl⟩ (pre_VW hO hP hD (wd_55 y ad cap I9 J9) rfl) rfl hl.1 rfl (Nat.le_of_ble_eq_true rfl) dX9_lay_15 ⟨(Nat.zero_le _), (Nat.zero_le _)⟩) hD hS hA (fun u15 H locs hp15 hP hD hS => ?_)
        try dsimp only at hp15
        obtain ⟨J15, rfl, hMA15, hEJ15, hj15⟩ := hp15
        have hP : va_P D vwCl (Wd y ad cap I9 J15) H := hP
        have hD : va_D A (Wd y ad cap I9 J15) := hD
        refine lv_aload_n hx hb dX9_lay_18 rfl (lv_at hl 1 rfl) ?_
        refine lv_iload_n hx hb dX9_lay_19 rfl (lv_at hl 2 rfl) ?_
        refine va_put (D := D) (T := TX9) (N := 51) (v := .int (nI ((lays T r).length))) (ty := .int) hx hb hts jnX9 tyX9 tyX9_ok nmX9 hown hK hP hD hS 55 (wd_55 y ad cap I9 J15) rfl 49 (by decide) (hts _ fl_X9_159) (fun _ h9 => h9) rfl (by decide +kernel) rfl rfl (Nat.le_of_ble_eq_true rfl) dX9_lay_20 (fun H locs hP hD hS => ?_)
        rw [wp_55_49] at hP hD
        generalize eI20 : va_up I9 55 (upd (I9 55) 49 (nI ((lays T r).length))) = I20 at hP hD
        have hG0 : rnG T (lays T r) (r + 1) 0 = [] := by unfold rnG; split <;> rfl
        refine lv_iconst (v := 0) hx hb dX9_lay_23 (by decide) ?_
        rw [show (0 : Int32) = (nI 0) from rfl]
        refine lv_istore (lv' := [(4, .int (nI 0)), (2, .int (nI (r + 1))), (0, .ref (ad 55)), (1, .int (nI ((lays T r).length))), (3, .int (nI e9))]) hx hb dX9_lay_24 hl (by decide) rfl (fun ls hl => ?_)
        have loop26 : ∀ (n26 : Nat) (k : Nat) (Ic : Nat → Nat → Int32) , (k ≤ T 0 2) → (MT Ic (lays T r ++ rnG T (lays T r) (r + 1) k)) → (∀ t, t < (lays T r ++ rnG T (lays T r) (r + 1) k).length → Ic 84 t = 0) → (Ic 55 49 = nI (lays T r ++ rnG T (lays T r) (r + 1) k).length) → (EqX [55, 80, 81, 82, 83, 84, 85] I Ic) → (∀ q, q ≠ 49 → Ic 55 q = I 55 q) → T 0 2 + 1 ≤ k + n26 → ∀ (H : Heap) (locs : List Loc), va_P D vwCl (Wd y ad cap Ic J15) H → va_D A (Wd y ad cap Ic J15) → va_S A s.heap H locs → ∀ ls : Array Slot, lv_has ls 8 [(0, .ref (ad 55)), (1, .int (nI ((lays T r).length))), (2, .int (nI (r + 1))), (4, .int (nI k))] → W p l e (headSpec [.code yX9_lay cX9_lay 8 (some .int)] ({ frames := 3, cells := 0, slots := 0, locals := 76 })).room s m ([.ref (ad 55)] : List Value).toArray below meth c H locs 0 0 (MQ below (va_Qi (fun (r : Int32) (u : St4) => ∃ I' J', u = (ad, cap, I', J') ∧ r = nI (wc T (layM T) 2 (T 0 2)) ∧ ML I' J' T (layM T) (stopR T + 1) ∧ RM I' T ∧ I' 55 19 = 0 ∧ EqX [55, 69, 73, 74, 75, 76, 77, 78, 80, 81, 82, 83, 84, 85] I I' ∧ EqJ [55, 67, 68, 70, 71, 72, 79] J J') (Aft D (Wt y) (Wd y ad cap I J) s.heap.size) A) ([.ref (ad 55)] : List Value).toArray s 0 0 A) (F0 m 26 ls []) := by
          intro n26
          induction n26 with
          | zero =>
            intro k Ic hk hMTc hUc hfr hEc h55c hmeas
            exact absurd hmeas (by omega)
          | succ n26 ih26 =>
            intro k Ic hk hMTc hUc hfr hEc h55c hmeas H locs hP hD hS ls hl
            have hMc : RM Ic T := RM_eqx hM (fun j h1 h2 => hEc j (by simp; omega)) (fun q hq => h55c q (by omega))
            have hTWk := rnG_TW (r := r + 1) hW0 (by omega) hTWr hk
            have hlenk := TW_len hW0 hTWk
            refine lv_iload hx hb dX9_lay_26 (lv_at hl 3 rfl) ?_
            refine lv_aload_n hx hb dX9_lay_28 rfl (lv_at hl 0 rfl) ?_
            refine va_get (D := D) (T := TX9) (N := 51) hx hb hts jnX9 hown hK hP 55 (wd_55 y ad cap Ic J15) rfl 2 (by decide) (hts _ fl_X9_124) (fun _ h9 => h9) rfl dX9_lay_29 ?_
            refine lv_topi (fun v29 ev29 => ?_)
            obtain rfl : v29 = (nI (T 0 2)) := by
              rw [ev29]; exact hMc.1.2.2.1
            refine lv_icmp_ge (tgt := 211) hx hb dX9_lay_32 (by decide) (fun c32 => ?_) (fun c32 => ?_)
            · skip
              have c32 := (nI_leI (a := (T 0 2)) (b := k) (by omega) (by omega)).mp c32
              have hkB : k = T 0 2 := by omega
              have hGF : rnG T (lays T r) (r + 1) k = rndF T (lays T r) (r + 1) := by rw [hkB]; rfl
              have hL1 : lays T r ++ rnG T (lays T r) (r + 1) k = lays T (r + 1) := by rw [hGF]; rfl
              refine lv_aload_n hx hb dX9_lay_211 rfl (lv_at hl 0 rfl) ?_
              refine va_get (D := D) (T := TX9) (N := 51) hx hb hts jnX9 hown hK hP 55 (wd_55 y ad cap Ic J15) rfl 49 (by decide) (hts _ fl_X9_159) (fun _ h9 => h9) rfl dX9_lay_212 ?_
              refine lv_topi (fun v212 ev212 => ?_)
              obtain rfl : v212 = (nI ((lays T r ++ rnG T (lays T r) (r + 1) k).length)) := by
                rw [ev212]; exact hfr
              refine lv_iload_n hx hb dX9_lay_215 rfl (lv_at hl 1 rfl) ?_
              refine lv_icmp_le (tgt := 223) hx hb dX9_lay_216 (by decide) (fun c216 => ?_) (fun c216 => ?_)
              · skip
                have c216 := (nI_leI (a := ((lays T r ++ rnG T (lays T r) (r + 1) k).length)) (b := ((lays T r).length)) (by omega) (by omega)).mp c216
                have hr00 : rndF T (lays T r) (r + 1) = [] := by rw [← hGF]; rw [List.length_append] at c216; exact List.length_eq_zero_iff.mp (by omega)
                refine lv_iconst (v := 0) hx hb dX9_lay_223 (by decide) ?_
                rw [show (0 : Int32) = nI 0 from rfl]
                refine lv_istore_n (lv' := [(3, .int (nI 0)), (0, .ref (ad 55)), (1, .int (nI ((lays T r).length))), (2, .int (nI (r + 1))), (4, .int (nI k))]) hx hb dX9_lay_224 rfl hl (by decide) rfl (fun ls hl => ?_)
                refine lv_aload_n hx hb dX9_lay_225 rfl (lv_at hl 1 rfl) ?_
                refine va_get (D := D) (T := TX9) (N := 51) hx hb hts jnX9 hown hK hP 55 (wd_55 y ad cap Ic J15) rfl 49 (by decide) (hts _ fl_X9_159) (fun _ h9 => h9) rfl dX9_lay_226 ?_
                refine lv_topi (fun v226 ev226 => ?_)
                obtain rfl : v226 = (nI ((lays T (r + 1)).length)) := by
                  rw [ev226, hfr, hL1]
                refine lv_istore_n (lv' := [(1, .int (nI ((lays T (r + 1)).length))), (3, .int (nI 0)), (0, .ref (ad 55)), (2, .int (nI (r + 1))), (4, .int (nI k))]) hx hb dX9_lay_229 rfl hl (by decide) rfl (fun ls hl => ?_)
                refine lv_goto (tgt := 6) hx hb dX9_lay_230 (by decide) ?_
                exact ih6 (r + 1) 0 Ic J15 (by omega) (by omega) (fun h9 => absurd h9 (by omega)) (fun _ => ⟨by rw [← hrs.2 hr00], by show lays T r ++ rndF T (lays T r) (r + 1) = _; rw [hr00, List.append_nil, hrs.2 hr00]; rfl, by rw [show layM T = lays T r from by unfold layM; rw [← hrs.2 hr00]]; exact hMA15⟩) (by rw [← hL1]; exact hMTc) (by rw [← hL1]; exact hUc) hEc h55c (EqJ.tr2 hEJ9 hEJ15 (by decide) (by decide)) (fun q hq => by rw [hj15 q hq]; exact hj55 q hq) (by omega) _ _ hP hD hS ls (by exact lv_sub hl [2, 0, 3, 1] rfl)
              · skip
                have c216 := mt (nI_leI (a := ((lays T r ++ rnG T (lays T r) (r + 1) k).length)) (b := ((lays T r).length)) (by omega) (by omega)).mpr c216
                have hr11 : ¬ rndF T (lays T r) (r + 1) = [] := fun h9 => c216 (by rw [hGF, h9, List.append_nil]; omega)
                refine lv_iconst (v := 1) hx hb dX9_lay_219 (by decide) ?_
                refine lv_goto (tgt := 224) hx hb dX9_lay_220 (by decide) ?_
                rw [show (1 : Int32) = nI 1 from rfl]
                refine lv_istore_n (lv' := [(3, .int (nI 1)), (0, .ref (ad 55)), (1, .int (nI ((lays T r).length))), (2, .int (nI (r + 1))), (4, .int (nI k))]) hx hb dX9_lay_224 rfl hl (by decide) rfl (fun ls hl => ?_)
                refine lv_aload_n hx hb dX9_lay_225 rfl (lv_at hl 1 rfl) ?_
                refine va_get (D := D) (T := TX9) (N := 51) hx hb hts jnX9 hown hK hP 55 (wd_55 y ad cap Ic J15) rfl 49 (by decide) (hts _ fl_X9_159) (fun _ h9 => h9) rfl dX9_lay_226 ?_
                refine lv_topi (fun v226 ev226 => ?_)
                obtain rfl : v226 = (nI ((lays T (r + 1)).length)) := by
                  rw [ev226, hfr, hL1]
                refine lv_istore_n (lv' := [(1, .int (nI ((lays T (r + 1)).length))), (3, .int (nI 1)), (0, .ref (ad 55)), (2, .int (nI (r + 1))), (4, .int (nI k))]) hx hb dX9_lay_229 rfl hl (by decide) rfl (fun ls hl => ?_)
                refine lv_goto (tgt := 6) hx hb dX9_lay_230 (by decide) ?_
                exact ih6 (r + 1) 1 Ic J15 (by omega) (by have h5 := (stop_is hW0 (r := r + 1) (fun q hq => by rcases lt_s2 hq with rfl | h7; exact hr11; exact hq9 q h7)).1; omega) (fun _ q hq => by rcases lt_s2 hq with rfl | h7; exact hr11; exact hq9 q h7) (fun h9 => absurd h9 (by omega)) (by rw [← hL1]; exact hMTc) (by rw [← hL1]; exact hUc) hEc h55c (EqJ.tr2 hEJ9 hEJ15 (by decide) (by decide)) (fun q hq => by rw [hj15 q hq]; exact hj55 q hq) (by omega) _ _ hP hD hS ls (by exact lv_sub hl [2, 0, 3, 1] rfl)
            · skip
              have c32 := mt (nI_leI (a := (T 0 2)) (b := k) (by omega) (by omega)).mpr c32
              refine lv_aload_n hx hb dX9_lay_35 rfl (lv_at hl 0 rfl) ?_
              refine va_get (D := D) (T := TX9) (N := 51) hx hb hts jnX9 hown hK hP 55 (wd_55 y ad cap Ic J15) rfl 15 (by decide) (hts _ fl_X9_127) (fun _ h9 => h9) rfl dX9_lay_36 ?_
              refine lv_topi (fun v36 ev36 => ?_)
              obtain rfl : v36 = (nI (T 0 5)) := by
                rw [ev36]; exact hMc.1.2.2.2.2.2.1
              refine lv_if_eq (tgt := 205) hx hb dX9_lay_39 (by decide) (fun c39 => ?_) (fun c39 => ?_)
              · skip
                have eR := rnG_same (M := lays T r) (r := r + 1) (k := k) (Or.inl ((nI_z (by omega)).mp c39))
                refine lv_iinc (v := (nI (k + 1))) (lv' := [(4, .int (nI (k + 1))), (0, .ref (ad 55)), (1, .int (nI ((lays T r).length))), (2, .int (nI (r + 1)))]) hx hb dX9_lay_205 hl (k := 3) rfl (nI_1 _) (by decide) rfl (fun ls hl => ?_)
                refine lv_goto (tgt := 26) hx hb dX9_lay_208 (by decide) ?_
                exact ih26 (k + 1) Ic (by omega) (by rw [eR]; exact hMTc) (by rw [eR]; exact hUc) (by rw [eR]; exact hfr) hEc h55c (by omega) _ _ hP hD hS ls (by exact lv_sub hl [1, 2, 3, 0] rfl)
              · skip
                have hz : ¬ T 0 5 = 0 := fun h9 => c39 (by rw [h9]; rfl)
                obtain ⟨x1, x2, x6, x7, x8⟩ := wB k (by omega)
                refine lv_aload_n hx hb dX9_lay_42 rfl (lv_at hl 0 rfl) ?_
                refine lv_iload hx hb dX9_lay_43 (lv_at hl 3 rfl) ?_
                refine rk_i (run_v (As := [.int (nI k)]) (rest := []) (b := (ad 55)) hx hb hml hown hO.2 (c_X9_isDirect l D y ad cap Ic J15 hMc hW0 hMA15 hlen9 (b0 := k) (by omega)) k_X9_isDirect ml_X9_166 ⟨rfl, rfl⟩ ⟨Nat.le_of_ble_eq_true rfl, Nat.le_of_ble_eq_true rfl⟩ (pre_VR hO hP (wd_55 y ad cap Ic J15) rfl) rfl hl.1 rfl (Nat.le_of_ble_eq_true rfl) dX9_lay_45 ⟨(Nat.zero_le _), (Nat.zero_le _)⟩) (fun r45 er45 => ?_)
                try dsimp only at er45
                refine lv_if_ne (tgt := 205) hx hb dX9_lay_48 (by decide) (fun c48 => ?_) (fun c48 => ?_)
                · skip
                  have c48 := if01_n er45 c48
                  have eR := rnG_same (M := lays T r) (r := r + 1) (k := k) (Or.inr (Or.inl c48))
                  refine lv_iinc (v := (nI (k + 1))) (lv' := [(4, .int (nI (k + 1))), (0, .ref (ad 55)), (1, .int (nI ((lays T r).length))), (2, .int (nI (r + 1)))]) hx hb dX9_lay_205 hl (k := 3) rfl (nI_1 _) (by decide) rfl (fun ls hl => ?_)
                  refine lv_goto (tgt := 26) hx hb dX9_lay_208 (by decide) ?_
                  exact ih26 (k + 1) Ic (by omega) (by rw [eR]; exact hMTc) (by rw [eR]; exact hUc) (by rw [eR]; exact hfr) hEc h55c (by omega) _ _ hP hD hS ls (by exact lv_sub hl [1, 2, 3, 0] rfl)
                · skip
                  have c48 := if01_z er45 c48
                  refine lv_aload_n hx hb dX9_lay_51 rfl (lv_at hl 0 rfl) ?_
                  refine lv_iload hx hb dX9_lay_52 (lv_at hl 3 rfl) ?_
                  refine lv_iload_n hx hb dX9_lay_54 rfl (lv_at hl 1 rfl) ?_
                  refine rk_i (run_v (As := [.int (nI k), .int (nI ((lays T r).length))]) (rest := []) (b := (ad 55)) hx hb hml hown hO.2 (c_X9_thunkFor l D y ad cap Ic J15 hMc hW0 hMA15 hlenk hTWk hMTc htz0 (b0 := k) (by omega)) k_X9_thunkFor ml_X9_170 ⟨rfl, rfl⟩ ⟨Nat.le_of_ble_eq_true rfl, Nat.le_of_ble_eq_true rfl⟩ (pre_VR hO hP (wd_55 y ad cap Ic J15) rfl) rfl hl.1 rfl (Nat.le_of_ble_eq_true rfl) dX9_lay_55 ⟨(Nat.zero_le _), (Nat.zero_le _)⟩) (fun r55 er55 => ?_)
                  try dsimp only at er55
                  obtain rfl : r55 = (oI (bst T (lays T r) k (T 0 0))) := by
                    exact er55
                  refine lv_iconst (v := (-1)) hx hb dX9_lay_58 (by decide) ?_
                  refine lv_icmp_eq (tgt := 65) hx hb dX9_lay_59 (by decide) (fun c59 => ?_) (fun c59 => ?_)
                  · skip
                    have hbn := (oI_neg (fun u hu => by have := bst_lt (T 0 0) u hu; omega)).mp c59
                    have eR := rnG_add (r := r + 1) hz c48 hbn
                    refine lv_aload_n hx hb dX9_lay_65 rfl (lv_at hl 0 rfl) ?_
                    refine lv_iload hx hb dX9_lay_66 (lv_at hl 3 rfl) ?_
                    refine lv_iload_n hx hb dX9_lay_68 rfl (lv_at hl 1 rfl) ?_
                    refine rk_i (run_v (As := [.int (nI k), .int (nI ((lays T r).length))]) (rest := []) (b := (ad 55)) hx hb hml hown hO.2 (c_X9_wants l D y ad cap Ic J15 hMc hW0 hMA15 hlenk hTWk hMTc (by omega) hfr (b0 := k) (by omega)) k_X9_wants ml_X9_174 ⟨rfl, rfl⟩ ⟨Nat.le_of_ble_eq_true rfl, Nat.le_of_ble_eq_true rfl⟩ (pre_VR hO hP (wd_55 y ad cap Ic J15) rfl) rfl hl.1 rfl (Nat.le_of_ble_eq_true rfl) dX9_lay_69 ⟨(Nat.zero_le _), (Nat.zero_le _)⟩) (fun r69 er69 => ?_)
                    try dsimp only at er69
                    obtain rfl : r69 = (oI (wntO T (lays T r) (rnG T (lays T r) (r + 1) k) k)) := by
                      exact er69
                    refine lv_istore (lv' := [(5, .int (oI (wntO T (lays T r) (rnG T (lays T r) (r + 1) k) k))), (0, .ref (ad 55)), (1, .int (nI ((lays T r).length))), (2, .int (nI (r + 1))), (4, .int (nI k))]) hx hb dX9_lay_72 hl (by decide) rfl (fun ls hl => ?_)
                    refine lv_iload hx hb dX9_lay_74 (lv_at hl 0 rfl) ?_
                    refine lv_iconst (v := (-1)) hx hb dX9_lay_76 (by decide) ?_
                    refine lv_icmp_ne (tgt := 83) hx hb dX9_lay_77 (by decide) (fun c77 => ?_) (fun c77 => ?_)
                    · skip
                      obtain ⟨s9, hw⟩ := Option.ne_none_iff_exists'.mp (fun h9 => c77 ((oI_neg (fun u hu => by have := wntO_lt hu; omega)).mpr h9))
                      rw [hw] at eR hl
                      simp only [oI] at hl
                      simp only [oneT] at eR
                      have hs9 := wntO_lt hw
                      have hTW1 := rnG_TW (r := r + 1) hW0 (by omega) hTWr (show k + 1 ≤ T 0 2 by omega)
                      have hlen1 := TW_len hW0 hTW1
                      rw [eR, ← List.append_assoc, List.length_append, List.length_singleton] at hlen1
                      refine lv_aload_n hx hb dX9_lay_83 rfl (lv_at hl 1 rfl) ?_
                      refine va_get (D := D) (T := TX9) (N := 51) hx hb hts jnX9 hown hK hP 55 (wd_55 y ad cap Ic J15) rfl 43 (by decide) (hts _ fl_X9_84) (fun _ h9 => h9) rfl dX9_lay_84 ?_
                      refine lv_aload_n hx hb dX9_lay_87 rfl (lv_at hl 1 rfl) ?_
                      refine va_get (D := D) (T := TX9) (N := 51) hx hb hts jnX9 hown hK hP 55 (wd_55 y ad cap Ic J15) rfl 49 (by decide) (hts _ fl_X9_159) (fun _ h9 => h9) rfl dX9_lay_88 ?_
                      refine lv_topi (fun v88 ev88 => ?_)
                      obtain rfl : v88 = (nI ((lays T r ++ rnG T (lays T r) (r + 1) k).length)) := by
                        rw [ev88]; exact hfr
                      refine lv_iload hx hb dX9_lay_91 (lv_at hl 0 rfl) ?_
                      refine va_iast (D := D) hx hb hK hP hD hS 80 0 (wd_80 y ad cap Ic J15) rfl (vp_in_nI (by omega) (by omega)) dX9_lay_93 (fun H locs hP hD hS => ?_)
                      rw [nI_clamp (n := (lays T r ++ rnG T (lays T r) (r + 1) k).length) (by omega)] at hP hD
                      rw [ws_80] at hP hD
                      generalize eI93 : va_up Ic 80 (upd (Ic 80) ((lays T r ++ rnG T (lays T r) (r + 1) k).length) (nI s9)) = I93 at hP hD
                      refine lv_aload_n hx hb dX9_lay_94 rfl (lv_at hl 1 rfl) ?_
                      refine va_get (D := D) (T := TX9) (N := 51) hx hb hts jnX9 hown hK hP 55 (wd_55 y ad cap I93 J15) rfl 44 (by decide) (hts _ fl_X9_87) (fun _ h9 => h9) rfl dX9_lay_95 ?_
                      refine lv_aload_n hx hb dX9_lay_98 rfl (lv_at hl 1 rfl) ?_
                      refine va_get (D := D) (T := TX9) (N := 51) hx hb hts jnX9 hown hK hP 55 (wd_55 y ad cap I93 J15) rfl 49 (by decide) (hts _ fl_X9_159) (fun _ h9 => h9) rfl dX9_lay_99 ?_
                      refine lv_topi (fun v99 ev99 => ?_)
                      obtain rfl : v99 = (nI ((lays T r ++ rnG T (lays T r) (r + 1) k).length)) := by
                        rw [ev99, ← eI93]; simpa [va_up, upd] using hfr
                      refine lv_aload_n hx hb dX9_lay_102 rfl (lv_at hl 1 rfl) ?_
                      refine va_get (D := D) (T := TX9) (N := 51) hx hb hts jnX9 hown hK hP 55 (wd_55 y ad cap I93 J15) rfl 12 (by decide) (hts _ fl_X9_35) (fun _ h9 => h9) rfl dX9_lay_103 ?_
                      refine lv_iload hx hb dX9_lay_106 (lv_at hl 4 rfl) ?_
                      refine va_iald (D := D) hx hb hK hP 64 0 (wd_64 y ad cap I93 J15) rfl (vp_in_nI (by omega) (by omega)) dX9_lay_108 ?_
                      rw [nI_clamp (n := k) (by omega)]
                      refine lv_topi (fun v108 ev108 => ?_)
                      obtain rfl : v108 = (nI (T 9 k)) := by
                        rw [ev108, ← eI93]; simpa [va_up, upd] using (hMc.2.2.2.1 _ (by omega)).2.2.2
                      refine va_iast (D := D) hx hb hK hP hD hS 81 0 (wd_81 y ad cap I93 J15) rfl (vp_in_nI (by omega) (by omega)) dX9_lay_109 (fun H locs hP hD hS => ?_)
                      rw [nI_clamp (n := (lays T r ++ rnG T (lays T r) (r + 1) k).length) (by omega)] at hP hD
                      rw [ws_81] at hP hD
                      generalize eI109 : va_up I93 81 (upd (I93 81) ((lays T r ++ rnG T (lays T r) (r + 1) k).length) (nI (T 9 k))) = I109 at hP hD
                      refine lv_aload_n hx hb dX9_lay_110 rfl (lv_at hl 1 rfl) ?_
                      refine va_get (D := D) (T := TX9) (N := 51) hx hb hts jnX9 hown hK hP 55 (wd_55 y ad cap I109 J15) rfl 45 (by decide) (hts _ fl_X9_90) (fun _ h9 => h9) rfl dX9_lay_111 ?_
                      refine lv_aload_n hx hb dX9_lay_114 rfl (lv_at hl 1 rfl) ?_
                      refine va_get (D := D) (T := TX9) (N := 51) hx hb hts jnX9 hown hK hP 55 (wd_55 y ad cap I109 J15) rfl 49 (by decide) (hts _ fl_X9_159) (fun _ h9 => h9) rfl dX9_lay_115 ?_
                      refine lv_topi (fun v115 ev115 => ?_)
                      obtain rfl : v115 = (nI ((lays T r ++ rnG T (lays T r) (r + 1) k).length)) := by
                        rw [ev115, ← eI109, ← eI93]; simpa [va_up, upd] using hfr
                      refine lv_iload_n hx hb dX9_lay_118 rfl (lv_at hl 3 rfl) ?_
                      refine va_iast (D := D) hx hb hK hP hD hS 82 0 (wd_82 y ad cap I109 J15) rfl (vp_in_nI (by omega) (by omega)) dX9_lay_119 (fun H locs hP hD hS => ?_)
                      rw [nI_clamp (n := (lays T r ++ rnG T (lays T r) (r + 1) k).length) (by omega)] at hP hD
                      rw [ws_82] at hP hD
                      generalize eI119 : va_up I109 82 (upd (I109 82) ((lays T r ++ rnG T (lays T r) (r + 1) k).length) (nI (r + 1))) = I119 at hP hD
                      refine lv_aload_n hx hb dX9_lay_120 rfl (lv_at hl 1 rfl) ?_
                      refine va_get (D := D) (T := TX9) (N := 51) hx hb hts jnX9 hown hK hP 55 (wd_55 y ad cap I119 J15) rfl 46 (by decide) (hts _ fl_X9_93) (fun _ h9 => h9) rfl dX9_lay_121 ?_
                      refine lv_aload_n hx hb dX9_lay_124 rfl (lv_at hl 1 rfl) ?_
                      refine va_get (D := D) (T := TX9) (N := 51) hx hb hts jnX9 hown hK hP 55 (wd_55 y ad cap I119 J15) rfl 49 (by decide) (hts _ fl_X9_159) (fun _ h9 => h9) rfl dX9_lay_125 ?_
                      refine lv_topi (fun v125 ev125 => ?_)
                      obtain rfl : v125 = (nI ((lays T r ++ rnG T (lays T r) (r + 1) k).length)) := by
                        rw [ev125, ← eI119, ← eI109, ← eI93]; simpa [va_up, upd] using hfr
                      refine lv_iload hx hb dX9_lay_128 (lv_at hl 4 rfl) ?_
                      refine va_iast (D := D) hx hb hK hP hD hS 83 0 (wd_83 y ad cap I119 J15) rfl (vp_in_nI (by omega) (by omega)) dX9_lay_130 (fun H locs hP hD hS => ?_)
                      rw [nI_clamp (n := (lays T r ++ rnG T (lays T r) (r + 1) k).length) (by omega)] at hP hD
                      rw [ws_83] at hP hD
                      generalize eI130 : va_up I119 83 (upd (I119 83) ((lays T r ++ rnG T (lays T r) (r + 1) k).length) (nI k)) = I130 at hP hD
                      refine lv_aload_n hx hb dX9_lay_131 rfl (lv_at hl 1 rfl) ?_
                      refine va_get (D := D) (T := TX9) (N := 51) hx hb hts jnX9 hown hK hP 55 (wd_55 y ad cap I130 J15) rfl 47 (by decide) (hts _ fl_X9_96) (fun _ h9 => h9) rfl dX9_lay_132 ?_
                      refine lv_aload_n hx hb dX9_lay_135 rfl (lv_at hl 1 rfl) ?_
                      refine va_get (D := D) (T := TX9) (N := 51) hx hb hts jnX9 hown hK hP 55 (wd_55 y ad cap I130 J15) rfl 49 (by decide) (hts _ fl_X9_159) (fun _ h9 => h9) rfl dX9_lay_136 ?_
                      refine lv_topi (fun v136 ev136 => ?_)
                      obtain rfl : v136 = (nI ((lays T r ++ rnG T (lays T r) (r + 1) k).length)) := by
                        rw [ev136, ← eI130, ← eI119, ← eI109, ← eI93]; simpa [va_up, upd] using hfr
                      refine lv_iconst (v := 0) hx hb dX9_lay_139 (by decide) ?_
                      refine va_iast (D := D) hx hb hK hP hD hS 84 0 (wd_84 y ad cap I130 J15) rfl (vp_in_nI (by omega) (by omega)) dX9_lay_140 (fun H locs hP hD hS => ?_)
                      rw [nI_clamp (n := (lays T r ++ rnG T (lays T r) (r + 1) k).length) (by omega)] at hP hD
                      rw [ws_84] at hP hD
                      generalize eI140 : va_up I130 84 (upd (I130 84) ((lays T r ++ rnG T (lays T r) (r + 1) k).length) 0) = I140 at hP hD
                      have h140 : I140 55 49 = nI (lays T r ++ rnG T (lays T r) (r + 1) k).length := by rw [← eI140, ← eI130, ← eI119, ← eI109, ← eI93]; simpa [va_up] using hfr
                      refine lv_iconst (v := 0) hx hb dX9_lay_141 (by decide) ?_
                      rw [show (0 : Int32) = (nI (cnt ((lays T r ++ rnG T (lays T r) (r + 1) k).take 0) s9)) from rfl]
                      refine lv_istore (lv' := [(6, .int (nI (cnt ((lays T r ++ rnG T (lays T r) (r + 1) k).take 0) s9))), (5, .int (nI s9)), (0, .ref (ad 55)), (1, .int (nI ((lays T r).length))), (2, .int (nI (r + 1))), (4, .int (nI k))]) hx hb dX9_lay_142 hl (by decide) rfl (fun ls hl => ?_)
                      refine lv_iconst (v := 0) hx hb dX9_lay_144 (by decide) ?_
                      rw [show (0 : Int32) = (nI 0) from rfl]
                      refine lv_istore (lv' := [(7, .int (nI 0)), (6, .int (nI (cnt ((lays T r ++ rnG T (lays T r) (r + 1) k).take 0) s9))), (5, .int (nI s9)), (0, .ref (ad 55)), (1, .int (nI ((lays T r).length))), (2, .int (nI (r + 1))), (4, .int (nI k))]) hx hb dX9_lay_145 hl (by decide) rfl (fun ls hl => ?_)
                      have loop147 : ∀ (n147 : Nat) (j : Nat) , (j ≤ (lays T r ++ rnG T (lays T r) (r + 1) k).length) → (lays T r ++ rnG T (lays T r) (r + 1) k).length + 1 ≤ j + n147 → ∀ (H : Heap) (locs : List Loc), va_P D vwCl (Wd y ad cap I140 J15) H → va_D A (Wd y ad cap I140 J15) → va_S A s.heap H locs → ∀ ls : Array Slot, lv_has ls 8 [(0, .ref (ad 55)), (1, .int (nI ((lays T r).length))), (2, .int (nI (r + 1))), (4, .int (nI k)), (5, .int (nI s9)), (6, .int (nI (cnt ((lays T r ++ rnG T (lays T r) (r + 1) k).take j) s9))), (7, .int (nI j))] → W p l e (headSpec [.code yX9_lay cX9_lay 8 (some .int)] ({ frames := 3, cells := 0, slots := 0, locals := 76 })).room s m ([.ref (ad 55)] : List Value).toArray below meth c H locs 0 0 (MQ below (va_Qi (fun (r : Int32) (u : St4) => ∃ I' J', u = (ad, cap, I', J') ∧ r = nI (wc T (layM T) 2 (T 0 2)) ∧ ML I' J' T (layM T) (stopR T + 1) ∧ RM I' T ∧ I' 55 19 = 0 ∧ EqX [55, 69, 73, 74, 75, 76, 77, 78, 80, 81, 82, 83, 84, 85] I I' ∧ EqJ [55, 67, 68, 70, 71, 72, 79] J J') (Aft D (Wt y) (Wd y ad cap I J) s.heap.size) A) ([.ref (ad 55)] : List Value).toArray s 0 0 A) (F0 m 147 ls []) := by
                        intro n147
                        induction n147 with
                        | zero =>
                          intro j hj hmeas
                          exact absurd hmeas (by omega)
                        | succ n147 ih147 =>
                          intro j hj hmeas H locs hP hD hS ls hl
                          refine lv_iload hx hb dX9_lay_147 (lv_at hl 6 rfl) ?_
                          refine lv_aload_n hx hb dX9_lay_149 rfl (lv_at hl 0 rfl) ?_
                          refine va_get (D := D) (T := TX9) (N := 51) hx hb hts jnX9 hown hK hP 55 (wd_55 y ad cap I140 J15) rfl 49 (by decide) (hts _ fl_X9_159) (fun _ h9 => h9) rfl dX9_lay_150 ?_
                          refine lv_topi (fun v150 ev150 => ?_)
                          obtain rfl : v150 = (nI ((lays T r ++ rnG T (lays T r) (r + 1) k).length)) := by
                            rw [ev150]; exact h140
                          refine lv_icmp_ge (tgt := 184) hx hb dX9_lay_153 (by decide) (fun c153 => ?_) (fun c153 => ?_)
                          · skip
                            have c153 := (nI_leI (a := ((lays T r ++ rnG T (lays T r) (r + 1) k).length)) (b := j) (by omega) (by omega)).mp c153
                            have hjl : j = (lays T r ++ rnG T (lays T r) (r + 1) k).length := by omega
                            rw [hjl, List.take_length] at hl
                            refine lv_aload_n hx hb dX9_lay_184 rfl (lv_at hl 0 rfl) ?_
                            refine va_get (D := D) (T := TX9) (N := 51) hx hb hts jnX9 hown hK hP 55 (wd_55 y ad cap I140 J15) rfl 48 (by decide) (hts _ fl_X9_99) (fun _ h9 => h9) rfl dX9_lay_185 ?_
                            refine lv_aload_n hx hb dX9_lay_188 rfl (lv_at hl 0 rfl) ?_
                            refine va_get (D := D) (T := TX9) (N := 51) hx hb hts jnX9 hown hK hP 55 (wd_55 y ad cap I140 J15) rfl 49 (by decide) (hts _ fl_X9_159) (fun _ h9 => h9) rfl dX9_lay_189 ?_
                            refine lv_topi (fun v189 ev189 => ?_)
                            obtain rfl : v189 = (nI ((lays T r ++ rnG T (lays T r) (r + 1) k).length)) := by
                              rw [ev189]; exact h140
                            refine lv_iload hx hb dX9_lay_192 (lv_at hl 5 rfl) ?_
                            refine va_iast (D := D) hx hb hK hP hD hS 85 0 (wd_85 y ad cap I140 J15) rfl (vp_in_nI (by omega) (by omega)) dX9_lay_194 (fun H locs hP hD hS => ?_)
                            rw [nI_clamp (n := (lays T r ++ rnG T (lays T r) (r + 1) k).length) (by omega)] at hP hD
                            rw [ws_85] at hP hD
                            generalize eI194 : va_up I140 85 (upd (I140 85) ((lays T r ++ rnG T (lays T r) (r + 1) k).length) (nI (cnt (lays T r ++ rnG T (lays T r) (r + 1) k) s9))) = I194 at hP hD
                            refine lv_aload_n hx hb dX9_lay_195 rfl (lv_at hl 0 rfl) ?_
                            refine lv_dup hx hb dX9_lay_196 rfl ?_
                            refine va_get (D := D) (T := TX9) (N := 51) hx hb hts jnX9 hown hK hP 55 (wd_55 y ad cap I194 J15) rfl 49 (by decide) (hts _ fl_X9_159) (fun _ h9 => h9) rfl dX9_lay_197 ?_
                            refine lv_topi (fun v197 ev197 => ?_)
                            obtain rfl : v197 = (nI ((lays T r ++ rnG T (lays T r) (r + 1) k).length)) := by
                              rw [ev197, ← eI194]; simpa [va_up] using h140
                            refine lv_iconst (v := 1) hx hb dX9_lay_200 (by decide) ?_
                            refine lv_iadd hx hb dX9_lay_201 ?_
                            refine lv_topi (fun v201 ev201 => ?_)
                            obtain rfl : v201 = (nI (((lays T r ++ rnG T (lays T r) (r + 1) k).length) + 1)) := by rw [ev201, show (1 : Int32) = nI 1 from rfl, nI_add]
                            refine va_put (D := D) (T := TX9) (N := 51) (v := .int (nI (((lays T r ++ rnG T (lays T r) (r + 1) k).length) + 1))) (ty := .int) hx hb hts jnX9 tyX9 tyX9_ok nmX9 hown hK hP hD hS 55 (wd_55 y ad cap I194 J15) rfl 49 (by decide) (hts _ fl_X9_159) (fun _ h9 => h9) rfl (by decide +kernel) rfl rfl (Nat.le_of_ble_eq_true rfl) dX9_lay_202 (fun H locs hP hD hS => ?_)
                            rw [wp_55_49] at hP hD
                            generalize eI202 : va_up I194 55 (upd (I194 55) 49 (nI (((lays T r ++ rnG T (lays T r) (r + 1) k).length) + 1))) = I202 at hP hD
                            obtain ⟨a1, a2, a3, a4, a5⟩ := MT_add (s := s9) (l := T 9 k) (r := r + 1) (b := k) hMTc hUc eI93 eI109 eI119 eI130 eI140 eI194 eI202
                            refine lv_iinc (v := (nI (k + 1))) (lv' := [(4, .int (nI (k + 1))), (0, .ref (ad 55)), (1, .int (nI ((lays T r).length))), (2, .int (nI (r + 1))), (5, .int (nI s9)), (6, .int (nI (cnt (lays T r ++ rnG T (lays T r) (r + 1) k) s9))), (7, .int (nI ((lays T r ++ rnG T (lays T r) (r + 1) k).length)))]) hx hb dX9_lay_205 hl (k := 3) rfl (nI_1 _) (by decide) rfl (fun ls hl => ?_)
                            refine lv_goto (tgt := 26) hx hb dX9_lay_208 (by decide) ?_
                            exact ih26 (k + 1) I202 (by omega) (by rw [eR, ← List.append_assoc]; exact a1) (by rw [eR, ← List.append_assoc]; exact a2) (by rw [eR, ← List.append_assoc]; exact a3) (EqX.tr2 hEc a4 (by decide) (by decide)) (fun q hq => by rw [a5 q hq]; exact h55c q hq) (by omega) _ _ hP hD hS ls (by exact lv_sub hl [1, 2, 3, 0] rfl)
                          · skip
                            have c153 := mt (nI_leI (a := ((lays T r ++ rnG T (lays T r) (r + 1) k).length)) (b := j) (by omega) (by omega)).mpr c153
                            have hcs := cnt_take_succ (L := (lays T r ++ rnG T (lays T r) (r + 1) k)) (k := j) (by omega) s9
                            obtain ⟨tw1, tw2, tw3, tw4⟩ := hTWk.1 j (by omega)
                            have hcl := cnt_le ((lays T r ++ rnG T (lays T r) (r + 1) k).take j) s9
                            rw [List.length_take] at hcl
                            refine lv_iload hx hb dX9_lay_156 (lv_at hl 5 rfl) ?_
                            refine lv_aload_n hx hb dX9_lay_158 rfl (lv_at hl 0 rfl) ?_
                            refine va_get (D := D) (T := TX9) (N := 51) hx hb hts jnX9 hown hK hP 55 (wd_55 y ad cap I140 J15) rfl 43 (by decide) (hts _ fl_X9_84) (fun _ h9 => h9) rfl dX9_lay_159 ?_
                            refine lv_iload hx hb dX9_lay_162 (lv_at hl 6 rfl) ?_
                            refine va_iald (D := D) hx hb hK hP 80 0 (wd_80 y ad cap I140 J15) rfl (vp_in_nI (by omega) (by omega)) dX9_lay_164 ?_
                            rw [nI_clamp (n := j) (by omega)]
                            refine lv_topi (fun v164 ev164 => ?_)
                            obtain rfl : v164 = (nI ((thA (lays T r ++ rnG T (lays T r) (r + 1) k) j).1)) := by
                              have h5 := (hMTc j (by omega)).1
                              have hne : j ≠ (lays T r ++ rnG T (lays T r) (r + 1) k).length := by omega
                              rw [ev164, ← eI140, ← eI130, ← eI119, ← eI109, ← eI93]
                              rw [List.length_append] at hne
                              simpa [va_up, upd, hne, List.length_append] using h5
                            refine lv_iload hx hb dX9_lay_165 (lv_at hl 4 rfl) ?_
                            refine lv_icmp_ne (tgt := 174) hx hb dX9_lay_167 (by decide) (fun c167 => ?_) (fun c167 => ?_)
                            · skip
                              have c167 := mt (nI_eq (a := ((thA (lays T r ++ rnG T (lays T r) (r + 1) k) j).1)) (b := s9) (by omega) (by omega)).mpr c167
                              rw [if_neg (fun h9 => c167 h9.symm)] at hcs
                              refine lv_iconst (v := 0) hx hb dX9_lay_174 (by decide) ?_
                              refine lv_iadd hx hb dX9_lay_175 ?_
                              refine lv_topi (fun v175 ev175 => ?_)
                              obtain rfl : v175 = (nI (cnt ((lays T r ++ rnG T (lays T r) (r + 1) k).take j) s9 + 0)) := by
                                rw [ev175]; exact nI_add _ _
                              refine lv_istore (lv' := [(6, .int (nI (cnt ((lays T r ++ rnG T (lays T r) (r + 1) k).take j) s9 + 0))), (0, .ref (ad 55)), (1, .int (nI ((lays T r).length))), (2, .int (nI (r + 1))), (4, .int (nI k)), (5, .int (nI s9)), (7, .int (nI j))]) hx hb dX9_lay_176 hl (by decide) rfl (fun ls hl => ?_)
                              refine lv_iinc (v := (nI (j + 1))) (lv' := [(7, .int (nI (j + 1))), (6, .int (nI (cnt ((lays T r ++ rnG T (lays T r) (r + 1) k).take j) s9 + 0))), (0, .ref (ad 55)), (1, .int (nI ((lays T r).length))), (2, .int (nI (r + 1))), (4, .int (nI k)), (5, .int (nI s9))]) hx hb dX9_lay_178 hl (k := 6) rfl (nI_1 _) (by decide) rfl (fun ls hl => ?_)
                              refine lv_goto (tgt := 147) hx hb dX9_lay_181 (by decide) ?_
                              exact ih147 (j + 1) (by omega) (by omega) _ _ hP hD hS ls (by rw [hcs]; exact lv_sub hl [2, 3, 4, 5, 6, 1, 0] rfl)
                            · skip
                              have c167 := (nI_eq (a := ((thA (lays T r ++ rnG T (lays T r) (r + 1) k) j).1)) (b := s9) (by omega) (by omega)).mp c167
                              rw [if_pos c167.symm] at hcs
                              refine lv_iconst (v := 1) hx hb dX9_lay_170 (by decide) ?_
                              refine lv_goto (tgt := 175) hx hb dX9_lay_171 (by decide) ?_
                              refine lv_iadd hx hb dX9_lay_175 ?_
                              refine lv_topi (fun v175 ev175 => ?_)
                              obtain rfl : v175 = (nI (cnt ((lays T r ++ rnG T (lays T r) (r + 1) k).take j) s9 + 1)) := by
                                rw [ev175]; exact nI_add _ _
                              refine lv_istore (lv' := [(6, .int (nI (cnt ((lays T r ++ rnG T (lays T r) (r + 1) k).take j) s9 + 1))), (0, .ref (ad 55)), (1, .int (nI ((lays T r).length))), (2, .int (nI (r + 1))), (4, .int (nI k)), (5, .int (nI s9)), (7, .int (nI j))]) hx hb dX9_lay_176 hl (by decide) rfl (fun ls hl => ?_)
                              refine lv_iinc (v := (nI (j + 1))) (lv' := [(7, .int (nI (j + 1))), (6, .int (nI (cnt ((lays T r ++ rnG T (lays T r) (r + 1) k).take j) s9 + 1))), (0, .ref (ad 55)), (1, .int (nI ((lays T r).length))), (2, .int (nI (r + 1))), (4, .int (nI k)), (5, .int (nI s9))]) hx hb dX9_lay_178 hl (k := 6) rfl (nI_1 _) (by decide) rfl (fun ls hl => ?_)
                              refine lv_goto (tgt := 147) hx hb dX9_lay_181 (by decide) ?_
                              exact ih147 (j + 1) (by omega) (by omega) _ _ hP hD hS ls (by rw [hcs]; exact lv_sub hl [2, 3, 4, 5, 6, 1, 0] rfl)
                      exact loop147 ((lays T r ++ rnG T (lays T r) (r + 1) k).length + 1) 0 (by omega) (by omega) _ _ hP hD hS ls (by exact lv_sub hl [3, 4, 5, 6, 2, 1, 0] rfl)
                    · skip
                      have hw := (oI_neg (fun u hu => by have := wntO_lt hu; omega)).mp c77
                      rw [hw] at eR
                      simp only [oneT, List.append_nil] at eR
                      refine lv_goto (tgt := 205) hx hb dX9_lay_80 (by decide) ?_
                      refine lv_iinc (v := (nI (k + 1))) (lv' := [(4, .int (nI (k + 1))), (5, .int (oI (wntO T (lays T r) (rnG T (lays T r) (r + 1) k) k))), (0, .ref (ad 55)), (1, .int (nI ((lays T r).length))), (2, .int (nI (r + 1)))]) hx hb dX9_lay_205 hl (k := 4) rfl (nI_1 _) (by decide) rfl (fun ls hl => ?_)
                      refine lv_goto (tgt := 26) hx hb dX9_lay_208 (by decide) ?_
                      exact ih26 (k + 1) Ic (by omega) (by rw [eR]; exact hMTc) (by rw [eR]; exact hUc) (by rw [eR]; exact hfr) hEc h55c (by omega) _ _ hP hD hS ls (by exact lv_sub hl [2, 3, 4, 0] rfl)
                  · skip
                    have hbn : ¬ bst T (lays T r) k (T 0 0) = none := fun h9 => c59 ((oI_neg (fun u hu => by have := bst_lt (T 0 0) u hu; omega)).mpr h9)
                    have eR := rnG_same (M := lays T r) (r := r + 1) (k := k) (Or.inr (Or.inr hbn))
                    refine lv_goto (tgt := 205) hx hb dX9_lay_62 (by decide) ?_
                    refine lv_iinc (v := (nI (k + 1))) (lv' := [(4, .int (nI (k + 1))), (0, .ref (ad 55)), (1, .int (nI ((lays T r).length))), (2, .int (nI (r + 1)))]) hx hb dX9_lay_205 hl (k := 3) rfl (nI_1 _) (by decide) rfl (fun ls hl => ?_)
                    refine lv_goto (tgt := 26) hx hb dX9_lay_208 (by decide) ?_
                    exact ih26 (k + 1) Ic (by omega) (by rw [eR]; exact hMTc) (by rw [eR]; exact hUc) (by rw [eR]; exact hfr) hEc h55c (by omega) _ _ hP hD hS ls (by exact lv_sub hl [1, 2, 3, 0] rfl)
        exact loop26 (T 0 2 + 1) 0 I20 (by omega) (by rw [hG0, List.append_nil]; intro t ht; have := hMT9 t ht; rw [← eI20]; simpa [va_up] using this) (by rw [hG0, List.append_nil]; intro t ht; have := hU9 t ht; rw [← eI20]; simpa [va_up] using this) (by rw [hG0, List.append_nil, ← eI20]; simp [va_up, upd]) (by subst eI20; exact EqX.up hE9 (by decide)) (fun q hq => by rw [← eI20]; simp [va_up, upd, hq]; exact h55 q hq) (by omega) _ _ hP hD hS ls (by exact lv_sub hl [2, 3, 1, 0] rfl)
  exact loop6 2403 0 1 I J (by omega) (by omega) (fun _ q hq => absurd hq (by omega)) (fun h9 => absurd h9 (by omega)) (fun t ht => absurd ht (by simp [lays])) (fun t ht => absurd ht (by simp [lays])) EqX.rf (fun _ _ => rfl) EqJ.rf (fun _ _ => rfl) (by omega) _ _ hP hD hS ls (by exact lv_sub hl [3, 2, 1, 0] rfl)
