theorem plc_pool {T : Nat → Nat → Nat} {M : List Th} {j k : Nat} (h : (thA M j).1 = k) : plc T M j = pS T (cnt M) k + cnt (M.take j) k * up (T 0 5) (T 0 6) := by
  unfold plc rk
  rw [h]
set_option maxHeartbeats 4000000 in
set_option maxRecDepth 100000 in
theorem c_X9_addresses (l : Launch) (D : va_G) (y : Nat → ClassId) (ad : Nat → Nat) (cap : Nat → Nat) (I : Nat → Nat → Int32) (J : Nat → Nat → Int64) (sz : Nat) {T : Nat → Nat → Nat} {M : List Th} (hM : RM I T) (hW : WF T) (hTWM : TW T M) (hMT : MT I M) (htz0 : 0 < M.length → 0 < T 0 5) : Met l yX9_addresses [.code yX9_addresses cX9_addresses 6 none] ({ frames := 1, cells := 0, slots := 0, locals := 24 }) (va_Pc [.ref (ad 55), .int (nI M.length)] (PW D y (Wd y ad cap I J) sz)) (va_Qv (fun u : St4 => ∃ J', u = (ad, cap, I, J') ∧ MA J' T M ∧ EqJ [55, 67, 68, 70, 71, 72, 79] J J' ∧ ∀ j, j ≠ 27 → J' 55 j = J 55 j) (Aft D (Wt y) (Wd y ad cap I J) sz) (va_A (Wd y ad cap I J) sz)) 0 0 (va_A (Wd y ad cap I J) sz) := by
  refine Met.ofW (cc := cX9_addresses) (maxL := 6) (ret := none) (by decide) rfl ?_
  intro p e s m args below meth c s₁ B hml hv
  obtain ⟨rfl, rfl, hP, hD0, hO⟩ := hv
  have hx := B.exec
  have hb := B.bytes
  have hr := B.returns
  have hown : s.vm.findClass RX9 = some m.cls := findClass_of_methodNamed B.named
  have hlocks := B.notSynchronized
  have hK := hO.1
  have hts : ∀ w ∈ lw_E, w.before ([.ref (ad 55), .int (nI M.length)] : List Value).toArray s = true := fun w h => hO.2 w h _
  clear B
  have hD := hD0.self (sz := s.heap.size)
  generalize hAe : va_A (Wd y ad cap I J) s.heap.size = A at hD ⊢
  have hA : ∀ q : Nat, s.heap.size ≤ q → A q := fun q h => by rw [← hAe]; exact Or.inr h
  have hS : va_S A s.heap s.heap [] := va_S.rf
  have hl := lv_entry ([.ref (ad 55), .int (nI M.length)]) (n := 6) (Nat.le_of_ble_eq_true rfl)
  rw [lg_entry_eq]
  generalize (lg_sl ([.ref (ad 55), .int (nI M.length)]) ++ List.replicate (6 - (lg_sl ([.ref (ad 55), .int (nI M.length)])).length) Slot.unset).toArray = ls at hl ⊢
  have hl : lv_has ls 6 [(0, .ref (ad 55)), (1, .int (nI M.length))] := hl
  have hW0 := hW
  obtain ⟨⟨w1, w2, w3, w4, w5, w6, w7⟩, wS, wL, wB, wK, wTk, wT0⟩ := hW
  have hlM : M.length ≤ 2400 := TW_len hW0 hTWM
  have hnM : ∀ s, cnt M s ≤ 2400 := fun s => Nat.le_trans (cnt_le M s) hlM
  have h26 : 2 ^ T 0 6 ≤ 2 ^ 6 := Nat.pow_le_pow_right (by decide) w7
  refine lv_aload_n hx hb dX9_addresses_0 rfl (lv_at hl 0 rfl) ?_
  refine va_get (D := D) (T := TX9) (N := 51) hx hb hts jnX9 hown hK hP 55 (wd_55 y ad cap I J) rfl 18 (by decide) (hts _ fl_X9_136) (fun _ h9 => h9) rfl dX9_addresses_1 ?_
  refine lv_topi (fun v1 ev1 => ?_)
  obtain rfl : v1 = (nI (T 0 4)) := by
    rw [ev1]; exact hM.1.2.2.2.2.1
  refine lv_i2l (v := lN (T 0 4)) hx hb dX9_addresses_4 (nI_l (by omega)) ?_
  refine lv_lstore_n (lv' := [(2, .long (lN (T 0 4))), (0, .ref (ad 55)), (1, .int (nI M.length))]) hx hb dX9_addresses_5 rfl hl (by decide) rfl (fun ls hl => ?_)
  refine lv_iconst (v := 0) hx hb dX9_addresses_6 (by decide) ?_
  rw [show (0 : Int32) = (nI 0) from rfl]
  refine lv_istore (lv' := [(4, .int (nI 0)), (2, .long (lN (T 0 4))), (0, .ref (ad 55)), (1, .int (nI M.length))]) hx hb dX9_addresses_7 hl (by decide) rfl (fun ls hl => ?_)
  have loop9 : ∀ (n9 : Nat) (k : Nat) (J9 : Nat → Nat → Int64) , (k ≤ T 0 0) → (∀ s, s < k → J9 67 s = lN (sA T (cnt M) s) ∧ J9 68 s = lN (sA T (cnt M) s + T 1 s) ∧ J9 70 s = lN (pE T (cnt M) s)) → (∀ t, t < M.length → (thA M t).1 < k → J9 79 t = lN (plc T M t)) → (EqJ [55, 67, 68, 70, 71, 72, 79] J J9) → (J9 55 = J 55) → T 0 0 + 1 ≤ k + n9 → ∀ (H : Heap) (locs : List Loc), va_P D vwCl (Wd y ad cap I J9) H → va_D A (Wd y ad cap I J9) → va_S A s.heap H locs → ∀ ls : Array Slot, lv_has ls 6 [(0, .ref (ad 55)), (1, .int (nI M.length)), (2, .long (lN (sAt T (cnt M) k))), (4, .int (nI k))] → W p l e (headSpec [.code yX9_addresses cX9_addresses 6 none] ({ frames := 1, cells := 0, slots := 0, locals := 24 })).room s m ([.ref (ad 55), .int (nI M.length)] : List Value).toArray below meth c H locs 0 0 (MQ below (va_Qv (fun u : St4 => ∃ J', u = (ad, cap, I, J') ∧ MA J' T M ∧ EqJ [55, 67, 68, 70, 71, 72, 79] J J' ∧ ∀ j, j ≠ 27 → J' 55 j = J 55 j) (Aft D (Wt y) (Wd y ad cap I J) s.heap.size) A) ([.ref (ad 55), .int (nI M.length)] : List Value).toArray s 0 0 A) (F0 m 9 ls []) := by
    intro n9
    induction n9 with
    | zero =>
      intro k J9 hk hsec h79 hE9 h55 hmeas
      exact absurd hmeas (by omega)
    | succ n9 ih9 =>
      intro k J9 hk hsec h79 hE9 h55 hmeas H locs hP hD hS ls hl
      refine lv_iload hx hb dX9_addresses_9 (lv_at hl 3 rfl) ?_
      refine lv_aload_n hx hb dX9_addresses_11 rfl (lv_at hl 0 rfl) ?_
      refine va_get (D := D) (T := TX9) (N := 51) hx hb hts jnX9 hown hK hP 55 (wd_55 y ad cap I J9) rfl 0 (by decide) (hts _ fl_X9_105) (fun _ h9 => h9) rfl dX9_addresses_12 ?_
      refine lv_topi (fun v12 ev12 => ?_)
      obtain rfl : v12 = (nI (T 0 0)) := by
        rw [ev12]; exact hM.1.1
      refine lv_icmp_ge (tgt := 144) hx hb dX9_addresses_15 (by decide) (fun c15 => ?_) (fun c15 => ?_)
      · skip
        have c15 := (nI_leI (a := (T 0 0)) (b := k) (by omega) (by omega)).mp c15
        refine lv_aload_n hx hb dX9_addresses_144 rfl (lv_at hl 0 rfl) ?_
        refine lv_lload_n hx hb dX9_addresses_145 rfl (lv_at hl 2 rfl) ?_
        refine va_put (D := D) (T := TX9) (N := 51) (v := .long (lN (sAt T (cnt M) k))) (ty := .long) hx hb hts jnX9 tyX9 tyX9_ok nmX9 hown hK hP hD hS 55 (wd_55 y ad cap I J9) rfl 27 (by decide) (hts _ fl_X9_143) (fun _ h9 => h9) rfl (by decide +kernel) rfl rfl (Nat.le_of_ble_eq_true rfl) dX9_addresses_146 (fun H locs hP hD hS => ?_)
        rw [wp_55_27] at hP hD
        generalize eJ146 : va_up J9 55 (vp_updL (J9 55) 27 (lN (sAt T (cnt M) k))) = J146 at hP hD
        have hkS : k = T 0 0 := by omega
        rw [hkS] at hsec h79
        have hs67 : ∀ s, s < T 0 0 → J146 67 s = lN (sA T (cnt M) s) := fun s hs => by rw [← eJ146]; simp only [va_up]; rw [if_neg (by decide)]; exact (hsec s hs).1
        refine lv_iconst (v := 0) hx hb dX9_addresses_149 (by decide) ?_
        rw [show (0 : Int32) = (nI 0) from rfl]
        refine lv_istore (lv' := [(4, .int (nI 0)), (0, .ref (ad 55)), (1, .int (nI M.length)), (2, .long (lN (sAt T (cnt M) k)))]) hx hb dX9_addresses_150 hl (by decide) rfl (fun ls hl => ?_)
        have loop152 : ∀ (n152 : Nat) (k3 : Nat) (Jc : Nat → Nat → Int64) , (k3 ≤ T 0 1) → (∀ l, l < k3 → Jc 71 l = lN (labA T (cnt M) l)) → (EqJ [71] J146 Jc) → T 0 1 + 1 ≤ k3 + n152 → ∀ (H : Heap) (locs : List Loc), va_P D vwCl (Wd y ad cap I Jc) H → va_D A (Wd y ad cap I Jc) → va_S A s.heap H locs → ∀ ls : Array Slot, lv_has ls 6 [(0, .ref (ad 55)), (1, .int (nI M.length)), (4, .int (nI k3))] → W p l e (headSpec [.code yX9_addresses cX9_addresses 6 none] ({ frames := 1, cells := 0, slots := 0, locals := 24 })).room s m ([.ref (ad 55), .int (nI M.length)] : List Value).toArray below meth c H locs 0 0 (MQ below (va_Qv (fun u : St4 => ∃ J', u = (ad, cap, I, J') ∧ MA J' T M ∧ EqJ [55, 67, 68, 70, 71, 72, 79] J J' ∧ ∀ j, j ≠ 27 → J' 55 j = J 55 j) (Aft D (Wt y) (Wd y ad cap I J) s.heap.size) A) ([.ref (ad 55), .int (nI M.length)] : List Value).toArray s 0 0 A) (F0 m 152 ls []) := by
          intro n152
          induction n152 with
          | zero =>
            intro k3 Jc hk3 h71 hEc hmeas
            exact absurd hmeas (by omega)
          | succ n152 ih152 =>
            intro k3 Jc hk3 h71 hEc hmeas H locs hP hD hS ls hl
            refine lv_iload hx hb dX9_addresses_152 (lv_at hl 2 rfl) ?_
            refine lv_aload_n hx hb dX9_addresses_154 rfl (lv_at hl 0 rfl) ?_
            refine va_get (D := D) (T := TX9) (N := 51) hx hb hts jnX9 hown hK hP 55 (wd_55 y ad cap I Jc) rfl 1 (by decide) (hts _ fl_X9_121) (fun _ h9 => h9) rfl dX9_addresses_155 ?_
            refine lv_topi (fun v155 ev155 => ?_)
            obtain rfl : v155 = (nI (T 0 1)) := by
              rw [ev155]; exact hM.1.2.1
            refine lv_icmp_ge (tgt := 195) hx hb dX9_addresses_158 (by decide) (fun c158 => ?_) (fun c158 => ?_)
            · skip
              have c158 := (nI_leI (a := (T 0 1)) (b := k3) (by omega) (by omega)).mp c158
              refine lv_iconst (v := 0) hx hb dX9_addresses_195 (by decide) ?_
              rw [show (0 : Int32) = (nI 0) from rfl]
              refine lv_istore (lv' := [(4, .int (nI 0)), (0, .ref (ad 55)), (1, .int (nI M.length))]) hx hb dX9_addresses_196 hl (by decide) rfl (fun ls hl => ?_)
              have loop198 : ∀ (n198 : Nat) (k4 : Nat) (Jd : Nat → Nat → Int64) , (k4 ≤ T 0 2) → (∀ b, b < k4 → Jd 72 b = lN (braA T (cnt M) b)) → (EqJ [72] Jc Jd) → T 0 2 + 1 ≤ k4 + n198 → ∀ (H : Heap) (locs : List Loc), va_P D vwCl (Wd y ad cap I Jd) H → va_D A (Wd y ad cap I Jd) → va_S A s.heap H locs → ∀ ls : Array Slot, lv_has ls 6 [(0, .ref (ad 55)), (1, .int (nI M.length)), (4, .int (nI k4))] → W p l e (headSpec [.code yX9_addresses cX9_addresses 6 none] ({ frames := 1, cells := 0, slots := 0, locals := 24 })).room s m ([.ref (ad 55), .int (nI M.length)] : List Value).toArray below meth c H locs 0 0 (MQ below (va_Qv (fun u : St4 => ∃ J', u = (ad, cap, I, J') ∧ MA J' T M ∧ EqJ [55, 67, 68, 70, 71, 72, 79] J J' ∧ ∀ j, j ≠ 27 → J' 55 j = J 55 j) (Aft D (Wt y) (Wd y ad cap I J) s.heap.size) A) ([.ref (ad 55), .int (nI M.length)] : List Value).toArray s 0 0 A) (F0 m 198 ls []) := by
                intro n198
                induction n198 with
                | zero =>
                  intro k4 Jd hk4 h72 hEd hmeas
                  exact absurd hmeas (by omega)
                | succ n198 ih198 =>
                  intro k4 Jd hk4 h72 hEd hmeas H locs hP hD hS ls hl
                  refine lv_iload hx hb dX9_addresses_198 (lv_at hl 2 rfl) ?_
                  refine lv_aload_n hx hb dX9_addresses_200 rfl (lv_at hl 0 rfl) ?_
                  refine va_get (D := D) (T := TX9) (N := 51) hx hb hts jnX9 hown hK hP 55 (wd_55 y ad cap I Jd) rfl 2 (by decide) (hts _ fl_X9_124) (fun _ h9 => h9) rfl dX9_addresses_201 ?_
                  refine lv_topi (fun v201 ev201 => ?_)
                  obtain rfl : v201 = (nI (T 0 2)) := by
                    rw [ev201]; exact hM.1.2.2.1
                  refine lv_icmp_ge (tgt := 241) hx hb dX9_addresses_204 (by decide) (fun c204 => ?_) (fun c204 => ?_)
                  · skip
                    have c204 := (nI_leI (a := (T 0 2)) (b := k4) (by omega) (by omega)).mp c204
                    refine W.vret hx hb hr (fun t ht hW => ⟨⟨(ad, cap, I, Jd), rfl, ?_, by rw [ht]; exact hP, by show va_D (va_A (Wd y ad cap I J) s.heap.size) _; rw [hAe]; exact hD⟩, hS.F ht⟩) hS.2.2 dX9_addresses_241
                    have f : ∀ j, j ≠ 55 → j ≠ 71 → j ≠ 72 → Jd j = J9 j := fun j h1 h2 h3 => by rw [hEd j (by simpa using h3), hEc j (by simpa using h2), ← eJ146]; simp only [va_up, if_neg h1]
                    have f55 : Jd 55 = J146 55 := by rw [hEd 55 (by decide), hEc 55 (by decide)]
                    refine ⟨Jd, rfl, ⟨?_, ?_, ?_, ?_, ?_⟩, ?_, ?_⟩
                    · intro s hs
                      rw [f 67 (by decide) (by decide) (by decide), f 68 (by decide) (by decide) (by decide), f 70 (by decide) (by decide) (by decide)]
                      exact hsec s hs
                    · intro l hl
                      rw [hEd 71 (by decide)]
                      exact h71 l (by omega)
                    · intro b hb
                      exact h72 b (by omega)
                    · intro t ht
                      rw [f 79 (by decide) (by decide) (by decide)]
                      exact h79 t ht (hTWM.1 t ht).1
                    · rw [f55, ← eJ146, hkS]
                      simp [va_up, vp_updL]
                    · intro j hj
                      simp at hj
                      rw [f j (by omega) (by omega) (by omega)]
                      exact hE9 j (by simp; omega)
                    · intro j hj
                      rw [f55, ← eJ146]
                      simp [va_up, vp_updL, hj, h55]
                  · skip
                    have c204 := mt (nI_leI (a := (T 0 2)) (b := k4) (by omega) (by omega)).mpr c204
                    obtain ⟨b1, b2, b3, b4, b5⟩ := wB k4 (by omega)
                    obtain ⟨b6, b7, b8⟩ := wS _ b1
                    refine lv_aload_n hx hb dX9_addresses_207 rfl (lv_at hl 0 rfl) ?_
                    refine va_get (D := D) (T := TX9) (N := 51) hx hb hts jnX9 hown hK hP 55 (wd_55 y ad cap I Jd) rfl 33 (by decide) (hts _ fl_X9_60) (fun _ h9 => h9) rfl dX9_addresses_208 ?_
                    refine lv_iload hx hb dX9_addresses_211 (lv_at hl 2 rfl) ?_
                    refine lv_aload_n hx hb dX9_addresses_213 rfl (lv_at hl 0 rfl) ?_
                    refine va_get (D := D) (T := TX9) (N := 51) hx hb hts jnX9 hown hK hP 55 (wd_55 y ad cap I Jd) rfl 28 (by decide) (hts _ fl_X9_44) (fun _ h9 => h9) rfl dX9_addresses_214 ?_
                    refine lv_aload_n hx hb dX9_addresses_217 rfl (lv_at hl 0 rfl) ?_
                    refine va_get (D := D) (T := TX9) (N := 51) hx hb hts jnX9 hown hK hP 55 (wd_55 y ad cap I Jd) rfl 9 (by decide) (hts _ fl_X9_26) (fun _ h9 => h9) rfl dX9_addresses_218 ?_
                    refine lv_iload hx hb dX9_addresses_221 (lv_at hl 2 rfl) ?_
                    refine va_iald (D := D) hx hb hK hP 61 0 (wd_61 y ad cap I Jd) rfl (vp_in_nI (by omega) (by omega)) dX9_addresses_223 ?_
                    rw [nI_clamp (n := k4) (by omega)]
                    refine lv_topi (fun v223 ev223 => ?_)
                    obtain rfl : v223 = (nI (T 6 k4)) := by
                      rw [ev223]; exact (hM.2.2.2.1 _ (by omega)).1
                    refine va_lald (D := D) hx hb hK hP 67 1 (wd_67 y ad cap I Jd) rfl (vp_in_nI (by omega) (by omega)) dX9_addresses_224 ?_
                    rw [nI_clamp (n := T 6 k4) (by omega)]
                    refine lv_topl (fun v224 ev224 => ?_)
                    obtain rfl : v224 = (lN (sA T (cnt M) (T 6 k4))) := by
                      rw [ev224, hEd 67 (by decide), hEc 67 (by decide)]; exact hs67 _ (by omega)
                    refine lv_aload_n hx hb dX9_addresses_225 rfl (lv_at hl 0 rfl) ?_
                    refine va_get (D := D) (T := TX9) (N := 51) hx hb hts jnX9 hown hK hP 55 (wd_55 y ad cap I Jd) rfl 10 (by decide) (hts _ fl_X9_29) (fun _ h9 => h9) rfl dX9_addresses_226 ?_
                    refine lv_iload hx hb dX9_addresses_229 (lv_at hl 2 rfl) ?_
                    refine va_iald (D := D) hx hb hK hP 62 0 (wd_62 y ad cap I Jd) rfl (vp_in_nI (by omega) (by omega)) dX9_addresses_231 ?_
                    rw [nI_clamp (n := k4) (by omega)]
                    refine lv_topi (fun v231 ev231 => ?_)
                    obtain rfl : v231 = (nI (T 7 k4)) := by
                      rw [ev231]; exact (hM.2.2.2.1 _ (by omega)).2.1
                    refine lv_i2l (v := lN (T 7 k4)) hx hb dX9_addresses_232 (nI_l (by omega)) ?_
                    refine lv_ladd hx hb dX9_addresses_233 ?_
                    refine lv_topl (fun v233 ev233 => ?_)
                    obtain rfl : v233 = (lN (braA T (cnt M) k4)) := by
                      rw [ev233, lN_add]; rfl
                    refine va_last (D := D) hx hb hK hP hD hS 72 1 (wd_72 y ad cap I Jd) rfl (vp_in_nI (by omega) (by omega)) dX9_addresses_234 (fun H locs hP hD hS => ?_)
                    rw [nI_clamp (n := k4) (by omega)] at hP hD
                    rw [ws_72] at hP hD
                    generalize eJ234 : va_up Jd 72 (vp_updL (Jd 72) k4 (lN (braA T (cnt M) k4))) = J234 at hP hD
                    refine lv_iinc (v := (nI (k4 + 1))) (lv' := [(4, .int (nI (k4 + 1))), (0, .ref (ad 55)), (1, .int (nI M.length))]) hx hb dX9_addresses_235 hl (k := 2) rfl (nI_1 _) (by decide) rfl (fun ls hl => ?_)
                    refine lv_goto (tgt := 198) hx hb dX9_addresses_238 (by decide) ?_
                    exact ih198 (k4 + 1) J234 (by omega) (fun l hl => by subst eJ234; rcases lt_s2 hl with h7 | h7; (subst h7; simp [va_up, vp_updL]); (have hne : l ≠ k4 := by omega); simpa [va_up, vp_updL, hne] using h72 l h7) (by subst eJ234; exact EqJ.up hEd (by decide)) (by omega) _ _ hP hD hS ls (by exact lv_sub hl [1, 2, 0] rfl)
              exact loop198 (T 0 2 + 1) 0 Jc (by omega) (fun l hl => absurd hl (by omega)) EqJ.rf (by omega) _ _ hP hD hS ls (by exact lv_sub hl [1, 2, 0] rfl)
            · skip
              have c158 := mt (nI_leI (a := (T 0 1)) (b := k3) (by omega) (by omega)).mpr c158
              obtain ⟨l1, l2⟩ := wL k3 (by omega)
              obtain ⟨l3, l4, l5⟩ := wS _ l1
              refine lv_aload_n hx hb dX9_addresses_161 rfl (lv_at hl 0 rfl) ?_
              refine va_get (D := D) (T := TX9) (N := 51) hx hb hts jnX9 hown hK hP 55 (wd_55 y ad cap I Jc) rfl 32 (by decide) (hts _ fl_X9_57) (fun _ h9 => h9) rfl dX9_addresses_162 ?_
              refine lv_iload hx hb dX9_addresses_165 (lv_at hl 2 rfl) ?_
              refine lv_aload_n hx hb dX9_addresses_167 rfl (lv_at hl 0 rfl) ?_
              refine va_get (D := D) (T := TX9) (N := 51) hx hb hts jnX9 hown hK hP 55 (wd_55 y ad cap I Jc) rfl 28 (by decide) (hts _ fl_X9_44) (fun _ h9 => h9) rfl dX9_addresses_168 ?_
              refine lv_aload_n hx hb dX9_addresses_171 rfl (lv_at hl 0 rfl) ?_
              refine va_get (D := D) (T := TX9) (N := 51) hx hb hts jnX9 hown hK hP 55 (wd_55 y ad cap I Jc) rfl 7 (by decide) (hts _ fl_X9_20) (fun _ h9 => h9) rfl dX9_addresses_172 ?_
              refine lv_iload hx hb dX9_addresses_175 (lv_at hl 2 rfl) ?_
              refine va_iald (D := D) hx hb hK hP 59 0 (wd_59 y ad cap I Jc) rfl (vp_in_nI (by omega) (by omega)) dX9_addresses_177 ?_
              rw [nI_clamp (n := k3) (by omega)]
              refine lv_topi (fun v177 ev177 => ?_)
              obtain rfl : v177 = (nI (T 4 k3)) := by
                rw [ev177]; exact (hM.2.2.1 _ (by omega)).1
              refine va_lald (D := D) hx hb hK hP 67 1 (wd_67 y ad cap I Jc) rfl (vp_in_nI (by omega) (by omega)) dX9_addresses_178 ?_
              rw [nI_clamp (n := T 4 k3) (by omega)]
              refine lv_topl (fun v178 ev178 => ?_)
              obtain rfl : v178 = (lN (sA T (cnt M) (T 4 k3))) := by
                rw [ev178, hEc 67 (by decide)]; exact hs67 _ (by omega)
              refine lv_aload_n hx hb dX9_addresses_179 rfl (lv_at hl 0 rfl) ?_
              refine va_get (D := D) (T := TX9) (N := 51) hx hb hts jnX9 hown hK hP 55 (wd_55 y ad cap I Jc) rfl 8 (by decide) (hts _ fl_X9_23) (fun _ h9 => h9) rfl dX9_addresses_180 ?_
              refine lv_iload hx hb dX9_addresses_183 (lv_at hl 2 rfl) ?_
              refine va_iald (D := D) hx hb hK hP 60 0 (wd_60 y ad cap I Jc) rfl (vp_in_nI (by omega) (by omega)) dX9_addresses_185 ?_
              rw [nI_clamp (n := k3) (by omega)]
              refine lv_topi (fun v185 ev185 => ?_)
              obtain rfl : v185 = (nI (T 5 k3)) := by
                rw [ev185]; exact (hM.2.2.1 _ (by omega)).2
              refine lv_i2l (v := lN (T 5 k3)) hx hb dX9_addresses_186 (nI_l (by omega)) ?_
              refine lv_ladd hx hb dX9_addresses_187 ?_
              refine lv_topl (fun v187 ev187 => ?_)
              obtain rfl : v187 = (lN (labA T (cnt M) k3)) := by
                rw [ev187, lN_add]; rfl
              refine va_last (D := D) hx hb hK hP hD hS 71 1 (wd_71 y ad cap I Jc) rfl (vp_in_nI (by omega) (by omega)) dX9_addresses_188 (fun H locs hP hD hS => ?_)
              rw [nI_clamp (n := k3) (by omega)] at hP hD
              rw [ws_71] at hP hD
              generalize eJ188 : va_up Jc 71 (vp_updL (Jc 71) k3 (lN (labA T (cnt M) k3))) = J188 at hP hD
              refine lv_iinc (v := (nI (k3 + 1))) (lv' := [(4, .int (nI (k3 + 1))), (0, .ref (ad 55)), (1, .int (nI M.length))]) hx hb dX9_addresses_189 hl (k := 2) rfl (nI_1 _) (by decide) rfl (fun ls hl => ?_)
              refine lv_goto (tgt := 152) hx hb dX9_addresses_192 (by decide) ?_
              exact ih152 (k3 + 1) J188 (by omega) (fun l hl => by subst eJ188; rcases lt_s2 hl with h7 | h7; (subst h7; simp [va_up, vp_updL]); (have hne : l ≠ k3 := by omega); simpa [va_up, vp_updL, hne] using h71 l h7) (by subst eJ188; exact EqJ.up hEc (by decide)) (by omega) _ _ hP hD hS ls (by exact lv_sub hl [1, 2, 0] rfl)
        exact loop152 (T 0 1 + 1) 0 J146 (by omega) (fun l hl => absurd hl (by omega)) EqJ.rf (by omega) _ _ hP hD hS ls (by exact lv_sub hl [1, 2, 0] rfl)
      · skip
        have c15 := mt (nI_leI (a := (T 0 0)) (b := k) (by omega) (by omega)).mpr c15
        obtain ⟨g1, g2, g3⟩ := wS k (by omega)
        have hsk := sAt_le hW0 hnM k (by omega)
        have hsk1 := sAt_le hW0 hnM (k + 1) (by omega)
        have hsa := sA_le hW0 hnM (s := k) (by omega)
        refine lv_lload_n hx hb dX9_addresses_18 rfl (lv_at hl 2 rfl) ?_
        refine lv_aload_n hx hb dX9_addresses_19 rfl (lv_at hl 0 rfl) ?_
        refine va_get (D := D) (T := TX9) (N := 51) hx hb hts jnX9 hown hK hP 55 (wd_55 y ad cap I J9) rfl 5 (by decide) (hts _ fl_X9_13) (fun _ h9 => h9) rfl dX9_addresses_20 ?_
        refine lv_iload hx hb dX9_addresses_23 (lv_at hl 3 rfl) ?_
        refine va_iald (D := D) hx hb hK hP 57 0 (wd_57 y ad cap I J9) rfl (vp_in_nI (by omega) (by omega)) dX9_addresses_25 ?_
        rw [nI_clamp (n := k) (by omega)]
        refine lv_topi (fun v25 ev25 => ?_)
        obtain rfl : v25 = (nI (T 2 k)) := by
          rw [ev25]; exact (hM.2.1 _ (by omega)).2.1
        refine rk_l (run_s (As := [.long (lN (sAt T (cnt M) k)), .int (nI (T 2 k))]) (rest := []) hx hb hml hown hO.2 (c_X9_upTo l D y (a0 := sAt T (cnt M) k) (k0 := T 2 k) (by omega) (by omega)) k_X9_upTo ml_X9_139 ⟨rfl, rfl⟩ ⟨Nat.le_of_ble_eq_true rfl, Nat.le_of_ble_eq_true rfl⟩ (pre_SR hO hP) rfl hl.1 rfl (Nat.le_of_ble_eq_true rfl) dX9_addresses_26 ⟨(Nat.zero_le _), (Nat.zero_le _)⟩) (fun r26 er26 => ?_)
        try dsimp only at er26
        obtain rfl : r26 = (lN (sA T (cnt M) k)) := by
          exact er26
        refine lv_lstore_n (lv' := [(2, .long (lN (sA T (cnt M) k))), (0, .ref (ad 55)), (1, .int (nI M.length)), (4, .int (nI k))]) hx hb dX9_addresses_29 rfl hl (by decide) rfl (fun ls hl => ?_)
        refine lv_aload_n hx hb dX9_addresses_30 rfl (lv_at hl 1 rfl) ?_
        refine va_get (D := D) (T := TX9) (N := 51) hx hb hts jnX9 hown hK hP 55 (wd_55 y ad cap I J9) rfl 28 (by decide) (hts _ fl_X9_44) (fun _ h9 => h9) rfl dX9_addresses_31 ?_
        refine lv_iload hx hb dX9_addresses_34 (lv_at hl 3 rfl) ?_
        refine lv_lload_n hx hb dX9_addresses_36 rfl (lv_at hl 0 rfl) ?_
        refine va_last (D := D) hx hb hK hP hD hS 67 1 (wd_67 y ad cap I J9) rfl (vp_in_nI (by omega) (by omega)) dX9_addresses_37 (fun H locs hP hD hS => ?_)
        rw [nI_clamp (n := k) (by omega)] at hP hD
        rw [ws_67] at hP hD
        generalize eJ37 : va_up J9 67 (vp_updL (J9 67) k (lN (sA T (cnt M) k))) = J37 at hP hD
        refine lv_lload_n hx hb dX9_addresses_38 rfl (lv_at hl 0 rfl) ?_
        refine lv_aload_n hx hb dX9_addresses_39 rfl (lv_at hl 1 rfl) ?_
        refine va_get (D := D) (T := TX9) (N := 51) hx hb hts jnX9 hown hK hP 55 (wd_55 y ad cap I J37) rfl 4 (by decide) (hts _ fl_X9_7) (fun _ h9 => h9) rfl dX9_addresses_40 ?_
        refine lv_iload hx hb dX9_addresses_43 (lv_at hl 3 rfl) ?_
        refine va_iald (D := D) hx hb hK hP 56 0 (wd_56 y ad cap I J37) rfl (vp_in_nI (by omega) (by omega)) dX9_addresses_45 ?_
        rw [nI_clamp (n := k) (by omega)]
        refine lv_topi (fun v45 ev45 => ?_)
        obtain rfl : v45 = (nI (T 1 k)) := by
          rw [ev45]; exact (hM.2.1 _ (by omega)).1
        refine lv_i2l (v := lN (T 1 k)) hx hb dX9_addresses_46 (nI_l (by omega)) ?_
        refine lv_ladd hx hb dX9_addresses_47 ?_
        refine lv_topl (fun v47 ev47 => ?_)
        obtain rfl : v47 = (lN ((sA T (cnt M) k) + (T 1 k))) := by rw [ev47, lN_add]
        refine lv_lstore_n (lv' := [(2, .long (lN ((sA T (cnt M) k) + (T 1 k)))), (0, .ref (ad 55)), (1, .int (nI M.length)), (4, .int (nI k))]) hx hb dX9_addresses_48 rfl hl (by decide) rfl (fun ls hl => ?_)
        refine lv_aload_n hx hb dX9_addresses_49 rfl (lv_at hl 1 rfl) ?_
        refine va_get (D := D) (T := TX9) (N := 51) hx hb hts jnX9 hown hK hP 55 (wd_55 y ad cap I J37) rfl 29 (by decide) (hts _ fl_X9_48) (fun _ h9 => h9) rfl dX9_addresses_50 ?_
        refine lv_iload hx hb dX9_addresses_53 (lv_at hl 3 rfl) ?_
        refine lv_lload_n hx hb dX9_addresses_55 rfl (lv_at hl 0 rfl) ?_
        refine va_last (D := D) hx hb hK hP hD hS 68 1 (wd_68 y ad cap I J37) rfl (vp_in_nI (by omega) (by omega)) dX9_addresses_56 (fun H locs hP hD hS => ?_)
        rw [nI_clamp (n := k) (by omega)] at hP hD
        rw [ws_68] at hP hD
        generalize eJ56 : va_up J37 68 (vp_updL (J37 68) k (lN ((sA T (cnt M) k) + (T 1 k)))) = J56 at hP hD
        refine lv_iconst (v := 0) hx hb dX9_addresses_57 (by decide) ?_
        rw [show (0 : Int32) = (nI 0) from rfl]
        refine lv_istore (lv' := [(5, .int (nI 0)), (2, .long (lN ((sA T (cnt M) k) + (T 1 k)))), (0, .ref (ad 55)), (1, .int (nI M.length)), (4, .int (nI k))]) hx hb dX9_addresses_58 hl (by decide) rfl (fun ls hl => ?_)
        have loop60 : ∀ (n60 : Nat) (j : Nat) (Jb : Nat → Nat → Int64) , (j ≤ M.length) → (∀ t, t < M.length → ((thA M t).1 < k ∨ ((thA M t).1 = k ∧ t < j)) → Jb 79 t = lN (plc T M t)) → (EqJ [79] J56 Jb) → M.length + 1 ≤ j + n60 → ∀ (H : Heap) (locs : List Loc), va_P D vwCl (Wd y ad cap I Jb) H → va_D A (Wd y ad cap I Jb) → va_S A s.heap H locs → ∀ ls : Array Slot, lv_has ls 6 [(0, .ref (ad 55)), (1, .int (nI M.length)), (2, .long (lN (atK T (cnt M) k (cnt (M.take j) k)))), (4, .int (nI k)), (5, .int (nI j))] → W p l e (headSpec [.code yX9_addresses cX9_addresses 6 none] ({ frames := 1, cells := 0, slots := 0, locals := 24 })).room s m ([.ref (ad 55), .int (nI M.length)] : List Value).toArray below meth c H locs 0 0 (MQ below (va_Qv (fun u : St4 => ∃ J', u = (ad, cap, I, J') ∧ MA J' T M ∧ EqJ [55, 67, 68, 70, 71, 72, 79] J J' ∧ ∀ j, j ≠ 27 → J' 55 j = J 55 j) (Aft D (Wt y) (Wd y ad cap I J) s.heap.size) A) ([.ref (ad 55), .int (nI M.length)] : List Value).toArray s 0 0 A) (F0 m 60 ls []) := by
          intro n60
          induction n60 with
          | zero =>
            intro j Jb hj h79b hEb hmeas
            exact absurd hmeas (by omega)
          | succ n60 ih60 =>
            intro j Jb hj h79b hEb hmeas H locs hP hD hS ls hl
            refine lv_iload hx hb dX9_addresses_60 (lv_at hl 4 rfl) ?_
            refine lv_iload_n hx hb dX9_addresses_62 rfl (lv_at hl 1 rfl) ?_
            refine lv_icmp_ge (tgt := 112) hx hb dX9_addresses_63 (by decide) (fun c63 => ?_) (fun c63 => ?_)
            · skip
              have c63 := (nI_leI (a := M.length) (b := j) (by omega) (by omega)).mp c63
              have hjM : j = M.length := by omega
              rw [hjM, List.take_length, atK_sAt] at hl
              have h79b : ∀ t, t < M.length → ((thA M t).1 < k ∨ (thA M t).1 = k) → Jb 79 t = lN (plc T M t) := fun t ht h8 => h79b t ht (by omega)
              refine lv_aload_n hx hb dX9_addresses_112 rfl (lv_at hl 0 rfl) ?_
              refine va_get (D := D) (T := TX9) (N := 51) hx hb hts jnX9 hown hK hP 55 (wd_55 y ad cap I Jb) rfl 31 (by decide) (hts _ fl_X9_54) (fun _ h9 => h9) rfl dX9_addresses_113 ?_
              refine lv_iload hx hb dX9_addresses_116 (lv_at hl 3 rfl) ?_
              refine lv_aload_n hx hb dX9_addresses_118 rfl (lv_at hl 0 rfl) ?_
              refine va_get (D := D) (T := TX9) (N := 51) hx hb hts jnX9 hown hK hP 55 (wd_55 y ad cap I Jb) rfl 15 (by decide) (hts _ fl_X9_127) (fun _ h9 => h9) rfl dX9_addresses_119 ?_
              refine lv_topi (fun v119 ev119 => ?_)
              obtain rfl : v119 = (nI (T 0 5)) := by
                rw [ev119]; exact hM.1.2.2.2.2.2.1
              refine lv_if_le (tgt := 136) hx hb dX9_addresses_122 (by decide) (fun c122 => ?_) (fun c122 => ?_)
              · skip
                have hz : T 0 5 = 0 := by rw [show (0 : Int32) = nI 0 from rfl, nI_leI (by omega) (by omega)] at c122; omega
                have hM0 : cnt M k = 0 := by
                  have : M.length = 0 := by
                    rcases Nat.eq_zero_or_pos M.length with h9 | h9
                    · exact h9
                    · have := htz0 h9; omega
                  have := cnt_le M k
                  omega
                have hpf := pE_flat (T := T) (n := cnt M) (s := k) (wT0 hz) hM0
                refine lv_lload_n hx hb dX9_addresses_136 rfl (lv_at hl 2 rfl) ?_
                rw [← hpf]
                refine va_last (D := D) hx hb hK hP hD hS 70 1 (wd_70 y ad cap I Jb) rfl (vp_in_nI (by omega) (by omega)) dX9_addresses_137 (fun H locs hP hD hS => ?_)
                rw [nI_clamp (n := k) (by omega)] at hP hD
                rw [ws_70] at hP hD
                generalize eJ137 : va_up Jb 70 (vp_updL (Jb 70) k (lN (pE T (cnt M) k))) = J137 at hP hD
                refine lv_iinc (v := (nI (k + 1))) (lv' := [(4, .int (nI (k + 1))), (0, .ref (ad 55)), (1, .int (nI M.length)), (2, .long (lN (sAt T (cnt M) (k + 1)))), (5, .int (nI M.length))]) hx hb dX9_addresses_138 hl (k := 3) rfl (nI_1 _) (by decide) rfl (fun ls hl => ?_)
                refine lv_goto (tgt := 9) hx hb dX9_addresses_141 (by decide) ?_
                exact ih9 (k + 1) J137 (by omega) (fun s hs => by
                  have q67 : J137 67 s = J56 67 s := by subst eJ137; simp only [va_up]; rw [if_neg (by decide), hEb 67 (by decide)]
                  have q68 : J137 68 s = J56 68 s := by subst eJ137; simp only [va_up]; rw [if_neg (by decide), hEb 68 (by decide)]
                  have q70 : Jb 70 = J9 70 := by rw [hEb 70 (by decide), ← eJ56, ← eJ37]; simp [va_up]
                  rw [q67, q68]
                  rcases lt_s2 hs with h7 | h7
                  · subst h7
                    subst eJ137
                    subst eJ56
                    subst eJ37
                    simp [va_up, vp_updL]
                  · have hne : s ≠ k := by omega
                    have := hsec s h7
                    subst eJ137
                    subst eJ56
                    subst eJ37
                    simpa [va_up, vp_updL, hne, q70] using this) (fun t ht h8 => by
                  have h9 := h79b t ht (by omega)
                  subst eJ137
                  simpa [va_up] using h9) (EqJ.up (EqJ.tr2 (EqJ.up (EqJ.up hE9 (show 67 ∈ _ by decide)) (show 68 ∈ _ by decide)) (show EqJ [79] _ Jb from by subst eJ56; subst eJ37; exact hEb) (fun _ h => h) (by decide)) (show 70 ∈ _ by decide) |> fun h9 => by subst eJ137; exact h9) (by subst eJ137; simp only [va_up]; rw [if_neg (by decide), hEb 55 (by decide), ← eJ56, ← eJ37]; simp only [va_up]; rw [if_neg (by decide), if_neg (by decide)]; exact h55) (by omega) _ _ hP hD hS ls (by exact lv_sub hl [1, 2, 3, 0] rfl)
              · skip
                refine lv_lload_n hx hb dX9_addresses_125 rfl (lv_at hl 2 rfl) ?_
                refine lv_aload_n hx hb dX9_addresses_126 rfl (lv_at hl 0 rfl) ?_
                refine va_get (D := D) (T := TX9) (N := 51) hx hb hts jnX9 hown hK hP 55 (wd_55 y ad cap I Jb) rfl 16 (by decide) (hts _ fl_X9_130) (fun _ h9 => h9) rfl dX9_addresses_127 ?_
                refine lv_topi (fun v127 ev127 => ?_)
                obtain rfl : v127 = (nI (T 0 6)) := by
                  rw [ev127]; exact hM.1.2.2.2.2.2.2.1
                refine rk_l (run_s (As := [.long (lN (sAt T (cnt M) (k + 1))), .int (nI (T 0 6))]) (rest := [.int (nI k), .ref (ad 70)]) hx hb hml hown hO.2 (c_X9_upTo l D y (a0 := sAt T (cnt M) (k + 1)) (k0 := T 0 6) (by omega) (by omega)) k_X9_upTo ml_X9_139 ⟨rfl, rfl⟩ ⟨Nat.le_of_ble_eq_true rfl, Nat.le_of_ble_eq_true rfl⟩ (pre_SR hO hP) rfl hl.1 rfl (Nat.le_of_ble_eq_true rfl) dX9_addresses_130 ⟨(Nat.zero_le _), (Nat.zero_le _)⟩) (fun r130 er130 => ?_)
                try dsimp only at er130
                obtain rfl : r130 = (lN (pE T (cnt M) k)) := by
                  rw [er130, pE_up]
                refine lv_goto (tgt := 137) hx hb dX9_addresses_133 (by decide) ?_
                
                refine va_last (D := D) hx hb hK hP hD hS 70 1 (wd_70 y ad cap I Jb) rfl (vp_in_nI (by omega) (by omega)) dX9_addresses_137 (fun H locs hP hD hS => ?_)
                rw [nI_clamp (n := k) (by omega)] at hP hD
                rw [ws_70] at hP hD
                generalize eJ137 : va_up Jb 70 (vp_updL (Jb 70) k (lN (pE T (cnt M) k))) = J137 at hP hD
                refine lv_iinc (v := (nI (k + 1))) (lv' := [(4, .int (nI (k + 1))), (0, .ref (ad 55)), (1, .int (nI M.length)), (2, .long (lN (sAt T (cnt M) (k + 1)))), (5, .int (nI M.length))]) hx hb dX9_addresses_138 hl (k := 3) rfl (nI_1 _) (by decide) rfl (fun ls hl => ?_)
                refine lv_goto (tgt := 9) hx hb dX9_addresses_141 (by decide) ?_
                exact ih9 (k + 1) J137 (by omega) (fun s hs => by
                  have q67 : J137 67 s = J56 67 s := by subst eJ137; simp only [va_up]; rw [if_neg (by decide), hEb 67 (by decide)]
                  have q68 : J137 68 s = J56 68 s := by subst eJ137; simp only [va_up]; rw [if_neg (by decide), hEb 68 (by decide)]
                  have q70 : Jb 70 = J9 70 := by rw [hEb 70 (by decide), ← eJ56, ← eJ37]; simp [va_up]
                  rw [q67, q68]
                  rcases lt_s2 hs with h7 | h7
                  · subst h7
                    subst eJ137
                    subst eJ56
                    subst eJ37
                    simp [va_up, vp_updL]
                  · have hne : s ≠ k := by omega
                    have := hsec s h7
                    subst eJ137
                    subst eJ56
                    subst eJ37
                    simpa [va_up, vp_updL, hne, q70] using this) (fun t ht h8 => by
                  have h9 := h79b t ht (by omega)
                  subst eJ137
                  simpa [va_up] using h9) (EqJ.up (EqJ.tr2 (EqJ.up (EqJ.up hE9 (show 67 ∈ _ by decide)) (show 68 ∈ _ by decide)) (show EqJ [79] _ Jb from by subst eJ56; subst eJ37; exact hEb) (fun _ h => h) (by decide)) (show 70 ∈ _ by decide) |> fun h9 => by subst eJ137; exact h9) (by subst eJ137; simp only [va_up]; rw [if_neg (by decide), hEb 55 (by decide), ← eJ56, ← eJ37]; simp only [va_up]; rw [if_neg (by decide), if_neg (by decide)]; exact h55) (by omega) _ _ hP hD hS ls (by exact lv_sub hl [1, 2, 3, 0] rfl)
            · skip
              have c63 := mt (nI_leI (a := M.length) (b := j) (by omega) (by omega)).mpr c63
              have hct : cnt (M.take j) k ≤ 2400 := Nat.le_trans (cnt_le _ _) (by rw [List.length_take]; omega)
              have hak := atK_le hW0 hnM (s := k) (c := cnt (M.take j) k) (by omega) hct
              obtain ⟨tw1, tw2, tw3, tw4⟩ := hTWM.1 j (by omega)
              have hcs := cnt_take_succ (L := M) (k := j) (by omega) k
              refine lv_aload_n hx hb dX9_addresses_66 rfl (lv_at hl 0 rfl) ?_
              refine va_get (D := D) (T := TX9) (N := 51) hx hb hts jnX9 hown hK hP 55 (wd_55 y ad cap I Jb) rfl 43 (by decide) (hts _ fl_X9_84) (fun _ h9 => h9) rfl dX9_addresses_67 ?_
              refine lv_iload hx hb dX9_addresses_70 (lv_at hl 4 rfl) ?_
              refine va_iald (D := D) hx hb hK hP 80 0 (wd_80 y ad cap I Jb) rfl (vp_in_nI (by omega) (by omega)) dX9_addresses_72 ?_
              rw [nI_clamp (n := j) (by omega)]
              refine lv_topi (fun v72 ev72 => ?_)
              obtain rfl : v72 = (nI ((thA M j).1)) := by
                rw [ev72]; exact (hMT _ (by omega)).1
              refine lv_iload hx hb dX9_addresses_73 (lv_at hl 3 rfl) ?_
              refine lv_icmp_eq (tgt := 81) hx hb dX9_addresses_75 (by decide) (fun c75 => ?_) (fun c75 => ?_)
              · skip
                have c75 := (nI_eq (a := ((thA M j).1)) (b := k) (by omega) (by omega)).mp c75
                rw [if_pos c75.symm] at hcs
                have htz := htz0 (by omega)
                have hpp := plc_pool (T := T) c75
                refine lv_lload_n hx hb dX9_addresses_81 rfl (lv_at hl 2 rfl) ?_
                refine lv_aload_n hx hb dX9_addresses_82 rfl (lv_at hl 0 rfl) ?_
                refine va_get (D := D) (T := TX9) (N := 51) hx hb hts jnX9 hown hK hP 55 (wd_55 y ad cap I Jb) rfl 16 (by decide) (hts _ fl_X9_130) (fun _ h9 => h9) rfl dX9_addresses_83 ?_
                refine lv_topi (fun v83 ev83 => ?_)
                obtain rfl : v83 = (nI (T 0 6)) := by
                  rw [ev83]; exact hM.1.2.2.2.2.2.2.1
                refine rk_l (run_s (As := [.long (lN (atK T (cnt M) k (cnt (M.take j) k))), .int (nI (T 0 6))]) (rest := []) hx hb hml hown hO.2 (c_X9_upTo l D y (a0 := atK T (cnt M) k (cnt (M.take j) k)) (k0 := T 0 6) (by omega) (by omega)) k_X9_upTo ml_X9_139 ⟨rfl, rfl⟩ ⟨Nat.le_of_ble_eq_true rfl, Nat.le_of_ble_eq_true rfl⟩ (pre_SR hO hP) rfl hl.1 rfl (Nat.le_of_ble_eq_true rfl) dX9_addresses_86 ⟨(Nat.zero_le _), (Nat.zero_le _)⟩) (fun r86 er86 => ?_)
                try dsimp only at er86
                obtain rfl : r86 = (lN (pS T (cnt M) k + cnt (M.take j) k * up (T 0 5) (T 0 6))) := by
                  rw [er86, atK_up]
                refine lv_lstore_n (lv' := [(2, .long (lN (pS T (cnt M) k + cnt (M.take j) k * up (T 0 5) (T 0 6)))), (0, .ref (ad 55)), (1, .int (nI M.length)), (4, .int (nI k)), (5, .int (nI j))]) hx hb dX9_addresses_89 rfl hl (by decide) rfl (fun ls hl => ?_)
                refine lv_aload_n hx hb dX9_addresses_90 rfl (lv_at hl 1 rfl) ?_
                refine va_get (D := D) (T := TX9) (N := 51) hx hb hts jnX9 hown hK hP 55 (wd_55 y ad cap I Jb) rfl 42 (by decide) (hts _ fl_X9_81) (fun _ h9 => h9) rfl dX9_addresses_91 ?_
                refine lv_iload hx hb dX9_addresses_94 (lv_at hl 4 rfl) ?_
                refine lv_lload_n hx hb dX9_addresses_96 rfl (lv_at hl 0 rfl) ?_
                refine va_last (D := D) hx hb hK hP hD hS 79 1 (wd_79 y ad cap I Jb) rfl (vp_in_nI (by omega) (by omega)) dX9_addresses_97 (fun H locs hP hD hS => ?_)
                rw [nI_clamp (n := j) (by omega)] at hP hD
                rw [ws_79] at hP hD
                generalize eJ97 : va_up Jb 79 (vp_updL (Jb 79) j (lN (pS T (cnt M) k + cnt (M.take j) k * up (T 0 5) (T 0 6)))) = J97 at hP hD
                refine lv_lload_n hx hb dX9_addresses_98 rfl (lv_at hl 0 rfl) ?_
                refine lv_aload_n hx hb dX9_addresses_99 rfl (lv_at hl 1 rfl) ?_
                refine va_get (D := D) (T := TX9) (N := 51) hx hb hts jnX9 hown hK hP 55 (wd_55 y ad cap I J97) rfl 15 (by decide) (hts _ fl_X9_127) (fun _ h9 => h9) rfl dX9_addresses_100 ?_
                refine lv_topi (fun v100 ev100 => ?_)
                obtain rfl : v100 = (nI (T 0 5)) := by
                  rw [ev100]; exact hM.1.2.2.2.2.2.1
                refine lv_i2l (v := lN (T 0 5)) hx hb dX9_addresses_103 (nI_l (by omega)) ?_
                refine lv_ladd hx hb dX9_addresses_104 ?_
                refine lv_topl (fun v104 ev104 => ?_)
                obtain rfl : v104 = (lN ((pS T (cnt M) k + cnt (M.take j) k * up (T 0 5) (T 0 6)) + (T 0 5))) := by rw [ev104, lN_add]
                refine lv_lstore_n (lv' := [(2, .long (lN ((pS T (cnt M) k + cnt (M.take j) k * up (T 0 5) (T 0 6)) + (T 0 5)))), (0, .ref (ad 55)), (1, .int (nI M.length)), (4, .int (nI k)), (5, .int (nI j))]) hx hb dX9_addresses_105 rfl hl (by decide) rfl (fun ls hl => ?_)
                refine lv_iinc (v := (nI (j + 1))) (lv' := [(5, .int (nI (j + 1))), (2, .long (lN ((pS T (cnt M) k + cnt (M.take j) k * up (T 0 5) (T 0 6)) + (T 0 5)))), (0, .ref (ad 55)), (1, .int (nI M.length)), (4, .int (nI k))]) hx hb dX9_addresses_106 hl (k := 4) rfl (nI_1 _) (by decide) rfl (fun ls hl => ?_)
                refine lv_goto (tgt := 60) hx hb dX9_addresses_109 (by decide) ?_
                exact ih60 (j + 1) J97 (by omega) (fun t ht h8 => by subst eJ97; by_cases h5 : t = j; (subst h5; rw [hpp]; simp [va_up, vp_updL]); (have h4 := h79b t ht (by omega); simpa [va_up, vp_updL, h5] using h4)) (by subst eJ97; exact EqJ.up hEb (by decide)) (by omega) _ _ hP hD hS ls (by rw [hcs, atK_succ]; exact lv_sub hl [2, 3, 1, 4, 0] rfl)
              · skip
                have c75 := mt (nI_eq (a := ((thA M j).1)) (b := k) (by omega) (by omega)).mpr c75
                rw [if_neg (fun h9 => c75 h9.symm), Nat.add_zero] at hcs
                refine lv_goto (tgt := 106) hx hb dX9_addresses_78 (by decide) ?_
                refine lv_iinc (v := (nI (j + 1))) (lv' := [(5, .int (nI (j + 1))), (0, .ref (ad 55)), (1, .int (nI M.length)), (2, .long (lN (atK T (cnt M) k (cnt (M.take j) k)))), (4, .int (nI k))]) hx hb dX9_addresses_106 hl (k := 4) rfl (nI_1 _) (by decide) rfl (fun ls hl => ?_)
                refine lv_goto (tgt := 60) hx hb dX9_addresses_109 (by decide) ?_
                exact ih60 (j + 1) Jb (by omega) (fun t ht h8 => h79b t ht (by rcases h8 with h7 | ⟨h7, h6⟩; exact Or.inl h7; rcases lt_s2 h6 with h5 | h5; (rw [h5] at h7; exact absurd h7 c75); exact Or.inr ⟨h7, h5⟩)) hEb (by omega) _ _ hP hD hS ls (by rw [hcs]; exact lv_sub hl [1, 2, 3, 4, 0] rfl)
        exact loop60 (M.length + 1) 0 J56 (by omega) (fun t ht h8 => by rcases h8 with h7 | ⟨_, h7⟩; (have h6 := h79 t ht h7; rw [← eJ56, ← eJ37]; simpa [va_up] using h6); omega) EqJ.rf (by omega) _ _ hP hD hS ls (by rw [show atK T (cnt M) k (cnt (M.take 0) k) = sA T (cnt M) k + T 1 k from by simp [cnt, atK]]; exact lv_sub hl [2, 3, 1, 4, 0] rfl)
  exact loop9 (T 0 0 + 1) 0 J (by omega) (fun s hs => absurd hs (by omega)) (fun t ht h8 => absurd h8 (by omega)) EqJ.rf rfl (by omega) _ _ hP hD hS ls (by exact lv_sub hl [2, 3, 1, 0] rfl)
