theorem rk_app {M F : List Th} {t : Nat} (h : t < M.length) : rk (M ++ F) t = rk M t := by
  unfold rk
  rw [thA_app h, List.take_append_of_le_length (by omega)]
theorem cnt_take_succ {L : List Th} {k : Nat} (h : k < L.length) (s : Nat) : cnt (L.take (k + 1)) s = cnt (L.take k) s + if s = (thA L k).1 then 1 else 0 := by
  unfold cnt
  rw [List.take_succ_eq_append_getElem h, List.countP_append]
  have e : thA L k = L[k] := by
    unfold thA
    rw [List.getD_eq_getElem?_getD, List.getElem?_eq_getElem h]
    rfl
  rw [e]
  congr 1
  by_cases hs : s = L[k].1
  · simp [hs]
  · have : ¬ L[k].1 = s := fun h9 => hs h9.symm
    simp [hs, this]
theorem TH_make {I I9 I' : Nat → Nat → Int32} {J : Nat → Nat → Int64} {T : Nat → Nat → Nat} {c : Nat} {M F : List Th} (h : TH I J T c M F) (hE : EqX [44, 46] I I9) (h44 : ∀ t, t < (M ++ F).length → I9 44 t = nI (rk (M ++ F) t)) (h46 : ∀ s, s < 40 → I9 46 s = nI (cnt (M ++ F) s)) (e : va_up I9 38 (upd (I9 38) 0 (nI (M ++ F).length)) = I') : TH I' J T c (M ++ F) [] := by
  obtain ⟨⟨h1, h2, h3, h4⟩, hA, hB, hC, hD⟩ := h
  subst e
  refine ⟨⟨?_, ?_, ?_, h4⟩, ?_, ?_, ?_, ?_⟩
  · simp [va_up, upd]
  · simp only [List.append_nil]
    simp [va_up, upd]
    rw [hE 38 (by decide), h2, List.length_append]
  · simpa using h3
  · intro t ht
    simp only [List.append_nil] at ht ⊢
    simp [va_up]
    rw [hE 39 (by decide), hE 40 (by decide), hE 41 (by decide), hE 42 (by decide)]
    exact hA t ht
  · intro t ht
    simpa [va_up] using h44 t ht
  · intro s hs
    simpa [va_up] using h46 s hs
  · intro s l hs hl
    simp only [List.append_nil]
    simp [va_up]
    rw [hE 47 (by decide)]
    exact hD s l hs hl
set_option maxHeartbeats 4000000 in
set_option maxRecDepth 100000 in
theorem c_X6_findPlaces (l : Launch) (D : va_G) (y : Nat → ClassId) (ad : Nat → Nat) (cap : Nat → Nat) (I : Nat → Nat → Int32) (J : Nat → Nat → Int64) (sz : Nat) {T : Nat → Nat → Nat} {M F : List Th} (hTH : TH I J T (cap 0) M F) (hTW : TW T (M ++ F)) (hT0 : T 0 0 ≤ 40) (hA36 : ∀ s, s < T 0 0 → J 36 s = lN (pS T (cnt M) s)) : Met l yX6_findPlaces [.code yX6_findPlaces cX6_findPlaces 5 none] ({ frames := 0, cells := 0, slots := 0, locals := 0 }) (va_Pc [.ref (ad 38), .ref (ad 34), .long (lN (up (T 0 5) (T 0 6)))] (PW D y (Wd y ad cap I J) sz)) (va_Qv (fun u : St4 => ∃ J', u = (ad, cap, I, J') ∧ EqJ [45] J J' ∧ PL J' T M) (Aft D (Wt y) (Wd y ad cap I J) sz) (va_A (Wd y ad cap I J) sz)) 0 0 (va_A (Wd y ad cap I J) sz) := by
  refine Met.ofW (cc := cX6_findPlaces) (maxL := 5) (ret := none) (by decide) rfl ?_
  intro p e s m args below meth c s₁ B hml hv
  obtain ⟨rfl, rfl, hP, hD0, hO⟩ := hv
  have hx := B.exec
  have hb := B.bytes
  have hr := B.returns
  have hown : s.vm.findClass RX6 = some m.cls := findClass_of_methodNamed B.named
  have hlocks := B.notSynchronized
  have hK := hO.1
  have hts : ∀ w ∈ lw_E, w.before ([.ref (ad 38), .ref (ad 34), .long (lN (up (T 0 5) (T 0 6)))] : List Value).toArray s = true := fun w h => hO.2 w h _
  clear B
  have hD := hD0.self (sz := s.heap.size)
  generalize hAe : va_A (Wd y ad cap I J) s.heap.size = A at hD ⊢
  have hA : ∀ q : Nat, s.heap.size ≤ q → A q := fun q h => by rw [← hAe]; exact Or.inr h
  have hS : va_S A s.heap s.heap [] := va_S.rf
  have hl := lv_entry ([.ref (ad 38), .ref (ad 34), .long (lN (up (T 0 5) (T 0 6)))]) (n := 5) (Nat.le_of_ble_eq_true rfl)
  rw [lg_entry_eq]
  generalize (lg_sl ([.ref (ad 38), .ref (ad 34), .long (lN (up (T 0 5) (T 0 6)))]) ++ List.replicate (5 - (lg_sl ([.ref (ad 38), .ref (ad 34), .long (lN (up (T 0 5) (T 0 6)))])).length) Slot.unset).toArray = ls at hl ⊢
  have hl : lv_has ls 5 [(0, .ref (ad 38)), (1, .ref (ad 34)), (2, .long (lN (up (T 0 5) (T 0 6))))] := hl
  refine lv_iconst (v := 0) hx hb dX6_findPlaces_0 (by decide) ?_
  rw [show (0 : Int32) = (nI 0) from rfl]
  refine lv_istore (lv' := [(4, .int (nI 0)), (0, .ref (ad 38)), (1, .ref (ad 34)), (2, .long (lN (up (T 0 5) (T 0 6))))]) hx hb dX6_findPlaces_1 hl (by decide) rfl (fun ls hl => ?_)
  have hM24 : M.length ≤ 2400 := by have := hTH.1.2.2.1; have := hTH.1.2.2.2; rw [List.length_append] at *; omega
  have loop3 : ∀ (n3 : Nat) (k : Nat) (J9 : Nat → Nat → Int64) , (k ≤ M.length) → (∀ t, t < k → J9 45 t = lN (plc T M t)) → (EqJ [45] J J9) → M.length + 1 ≤ k + n3 → ∀ (H : Heap) (locs : List Loc), va_P D vwCl (Wd y ad cap I J9) H → va_D A (Wd y ad cap I J9) → va_S A s.heap H locs → ∀ ls : Array Slot, lv_has ls 5 [(0, .ref (ad 38)), (1, .ref (ad 34)), (2, .long (lN (up (T 0 5) (T 0 6)))), (4, .int (nI k))] → W p l e (headSpec [.code yX6_findPlaces cX6_findPlaces 5 none] ({ frames := 0, cells := 0, slots := 0, locals := 0 })).room s m ([.ref (ad 38), .ref (ad 34), .long (lN (up (T 0 5) (T 0 6)))] : List Value).toArray below meth c H locs 0 0 (MQ below (va_Qv (fun u : St4 => ∃ J', u = (ad, cap, I, J') ∧ EqJ [45] J J' ∧ PL J' T M) (Aft D (Wt y) (Wd y ad cap I J) s.heap.size) A) ([.ref (ad 38), .ref (ad 34), .long (lN (up (T 0 5) (T 0 6)))] : List Value).toArray s 0 0 A) (F0 m 3 ls []) := by
    intro n3
    induction n3 with
    | zero =>
      intro k J9 hk hPL hEq hmeas
      exact absurd hmeas (by omega)
    | succ n3 ih3 =>
      intro k J9 hk hPL hEq hmeas H locs hP hD hS ls hl
      have hM24 : M.length ≤ 2400 := by have := hTH.1.2.2.1; have := hTH.1.2.2.2; rw [List.length_append] at *; omega
      refine lv_iload hx hb dX6_findPlaces_3 (lv_at hl 3 rfl) ?_
      refine lv_aload_n hx hb dX6_findPlaces_5 rfl (lv_at hl 0 rfl) ?_
      refine va_get (D := D) (T := TX6) (N := 11) hx hb hts jnX6 hown hK hP 38 (wd_38 y ad cap I J9) rfl 0 (by decide) (hts _ fl_X6_9) (fun _ h9 => h9) rfl dX6_findPlaces_6 ?_
      refine lv_topi (fun v6 ev6 => ?_)
      obtain rfl : v6 = (nI M.length) := by
        rw [ev6]; exact hTH.1.1
      refine lv_icmp_ge (tgt := 48) hx hb dX6_findPlaces_9 (by decide) (fun c9 => ?_) (fun c9 => ?_)
      · skip
        have c9 := (nI_leI (a := M.length) (b := k) (by omega) (by omega)).mp c9
        refine W.vret hx hb hr (fun t ht hW => ⟨⟨(ad, cap, I, J9), rfl, ?_, by rw [ht]; exact hP, by show va_D (va_A (Wd y ad cap I J) s.heap.size) _; rw [hAe]; exact hD⟩, hS.F ht⟩) hS.2.2 dX6_findPlaces_48
        exact ⟨J9, rfl, hEq, fun t ht => hPL t (by omega)⟩
      · skip
        have c9 := mt (nI_leI (a := M.length) (b := k) (by omega) (by omega)).mpr c9
        obtain ⟨tw1, tw2, tw3, tw4⟩ := hTW.1 k (by rw [List.length_append]; omega)
        have hrk := rk_le M k
        have hcp := hTH.1.2.2.1
        have hcp2 := hTH.1.2.2.2
        rw [List.length_append] at hcp
        refine lv_aload_n hx hb dX6_findPlaces_12 rfl (lv_at hl 0 rfl) ?_
        refine va_get (D := D) (T := TX6) (N := 11) hx hb hts jnX6 hown hK hP 38 (wd_38 y ad cap I J9) rfl 8 (by decide) (hts _ fl_X6_37) (fun _ h9 => h9) rfl dX6_findPlaces_13 ?_
        refine lv_iload hx hb dX6_findPlaces_16 (lv_at hl 3 rfl) ?_
        refine lv_aload_n hx hb dX6_findPlaces_18 rfl (lv_at hl 1 rfl) ?_
        refine va_getN (D := D) (T := TX0) (N := 4) hx hb hts jnX0 hown hK hP 34 (wd_34 y ad cap I J9) rfl 1 (by decide) (hts _ fn_X6_76) (fun _ h9 => h9) rfl dX6_findPlaces_19 ?_
        refine lv_aload_n hx hb dX6_findPlaces_22 rfl (lv_at hl 0 rfl) ?_
        refine va_get (D := D) (T := TX6) (N := 11) hx hb hts jnX6 hown hK hP 38 (wd_38 y ad cap I J9) rfl 2 (by decide) (hts _ fl_X6_18) (fun _ h9 => h9) rfl dX6_findPlaces_23 ?_
        refine lv_iload hx hb dX6_findPlaces_26 (lv_at hl 3 rfl) ?_
        refine va_iald (D := D) hx hb hK hP 39 0 (wd_39 y ad cap I J9) rfl (vp_in_nI (by have := hTH.1.2.2.1; rw [List.length_append] at this; omega) (by have := hTH.1.2.2.2; omega)) dX6_findPlaces_28 ?_
        rw [nI_clamp (n := k) (by omega)]
        refine lv_topi (fun v28 ev28 => ?_)
        obtain rfl : v28 = (nI ((thA (M ++ F) k).1)) := by
          rw [ev28]; exact (hTH.2.1 _ (by simp only [List.length_append]; omega)).1
        refine va_lald (D := D) hx hb hK hP 36 1 (wd_36 y ad cap I J9) rfl (vp_in_nI (by omega) (by omega)) dX6_findPlaces_29 ?_
        rw [nI_clamp (n := (thA (M ++ F) k).1) (by omega)]
        refine lv_topl (fun v29 ev29 => ?_)
        obtain rfl : v29 = (lN (pS T (cnt M) (thA (M ++ F) k).1)) := by
          rw [ev29, hEq 36 (by decide)]; exact hA36 _ (by omega)
        refine lv_aload_n hx hb dX6_findPlaces_30 rfl (lv_at hl 0 rfl) ?_
        refine va_get (D := D) (T := TX6) (N := 11) hx hb hts jnX6 hown hK hP 38 (wd_38 y ad cap I J9) rfl 7 (by decide) (hts _ fl_X6_34) (fun _ h9 => h9) rfl dX6_findPlaces_31 ?_
        refine lv_iload hx hb dX6_findPlaces_34 (lv_at hl 3 rfl) ?_
        refine va_iald (D := D) hx hb hK hP 44 0 (wd_44 y ad cap I J9) rfl (vp_in_nI (by have := hTH.1.2.2.1; rw [List.length_append] at this; omega) (by have := hTH.1.2.2.2; omega)) dX6_findPlaces_36 ?_
        rw [nI_clamp (n := k) (by omega)]
        refine lv_topi (fun v36 ev36 => ?_)
        obtain rfl : v36 = (nI (rk M k)) := by
          rw [ev36]; exact hTH.2.2.1 _ (by omega)
        refine lv_i2l (v := lN (rk M k)) hx hb dX6_findPlaces_37 (nI_l (by omega)) ?_
        refine lv_lload_n hx hb dX6_findPlaces_38 rfl (lv_at hl 2 rfl) ?_
        refine lv_lmul hx hb dX6_findPlaces_39 ?_
        refine lv_topl (fun v39 ev39 => ?_)
        obtain rfl : v39 = (lN ((rk M k) * (up (T 0 5) (T 0 6)))) := by rw [ev39, lN_mul]
        refine lv_ladd hx hb dX6_findPlaces_40 ?_
        refine lv_topl (fun v40 ev40 => ?_)
        obtain rfl : v40 = (lN ((pS T (cnt M) (thA (M ++ F) k).1) + ((rk M k) * (up (T 0 5) (T 0 6))))) := by rw [ev40, lN_add]
        refine va_last (D := D) hx hb hK hP hD hS 45 1 (wd_45 y ad cap I J9) rfl (vp_in_nI (by have := hTH.1.2.2.1; rw [List.length_append] at this; omega) (by have := hTH.1.2.2.2; omega)) dX6_findPlaces_41 (fun H locs hP hD hS => ?_)
        rw [nI_clamp (n := k) (by omega)] at hP hD
        rw [ws_45] at hP hD
        generalize eJ41 : va_up J9 45 (vp_updL (J9 45) k (lN ((pS T (cnt M) (thA (M ++ F) k).1) + ((rk M k) * (up (T 0 5) (T 0 6)))))) = J41 at hP hD
        refine lv_iinc (v := (nI (k + 1))) (lv' := [(4, .int (nI (k + 1))), (0, .ref (ad 38)), (1, .ref (ad 34)), (2, .long (lN (up (T 0 5) (T 0 6))))]) hx hb dX6_findPlaces_42 hl (k := 3) rfl (nI_1 _) (by decide) rfl (fun ls hl => ?_)
        refine lv_goto (tgt := 3) hx hb dX6_findPlaces_45 (by decide) ?_
        have hM24 : M.length ≤ 2400 := by have := hTH.1.2.2.1; have := hTH.1.2.2.2; rw [List.length_append] at *; omega
        exact ih3 (k + 1) J41 (by omega) (fun t ht => by subst eJ41; rcases lt_s2 ht with h8 | h8; (subst h8; simp [va_up, vp_updL, plc, thA_app (F := F) (show t < M.length by omega)]); (have hne : t ≠ k := by omega); simpa [va_up, vp_updL, hne] using hPL t h8) (by subst eJ41; exact EqJ.up hEq (by decide)) (by omega) _ _ hP hD hS ls (by exact lv_sub hl [1, 2, 3, 0] rfl)
  exact loop3 (M.length + 1) 0 J (by omega) (fun t ht => absurd ht (by omega)) EqJ.rf (by omega) _ _ hP hD hS ls (by exact lv_sub hl [1, 2, 3, 0] rfl)
set_option maxHeartbeats 4000000 in
set_option maxRecDepth 100000 in
theorem c_X6_makeWanted (l : Launch) (D : va_G) (y : Nat → ClassId) (ad : Nat → Nat) (cap : Nat → Nat) (I : Nat → Nat → Int32) (J : Nat → Nat → Int64) (sz : Nat) {T : Nat → Nat → Nat} {M F : List Th} (hTH : TH I J T (cap 0) M F) (hTW : TW T (M ++ F)) (hT0 : T 0 0 ≤ 40) : Met l yX6_makeWanted [.code yX6_makeWanted cX6_makeWanted 2 (some .boolean)] ({ frames := 0, cells := 0, slots := 0, locals := 0 }) (va_Pc [.ref (ad 38)] (PW D y (Wd y ad cap I J) sz)) (va_Qi (fun (r : Int32) (u : St4) => ∃ I', u = (ad, cap, I', J) ∧ EqX [38, 44, 46] I I' ∧ (F = [] → r = 0 ∧ I' = I) ∧ (F ≠ [] → r = 1 ∧ TH I' J T (cap 0) (M ++ F) [])) (Aft D (Wt y) (Wd y ad cap I J) sz) (va_A (Wd y ad cap I J) sz)) 0 0 (va_A (Wd y ad cap I J) sz) := by
  refine Met.ofW (cc := cX6_makeWanted) (maxL := 2) (ret := (some .boolean)) (by decide) rfl ?_
  intro p e s m args below meth c s₁ B hml hv
  obtain ⟨rfl, rfl, hP, hD0, hO⟩ := hv
  have hx := B.exec
  have hb := B.bytes
  have hr := B.returns
  have hown : s.vm.findClass RX6 = some m.cls := findClass_of_methodNamed B.named
  have hlocks := B.notSynchronized
  have hK := hO.1
  have hts : ∀ w ∈ lw_E, w.before ([.ref (ad 38)] : List Value).toArray s = true := fun w h => hO.2 w h _
  clear B
  have hD := hD0.self (sz := s.heap.size)
  generalize hAe : va_A (Wd y ad cap I J) s.heap.size = A at hD ⊢
  have hA : ∀ q : Nat, s.heap.size ≤ q → A q := fun q h => by rw [← hAe]; exact Or.inr h
  have hS : va_S A s.heap s.heap [] := va_S.rf
  have hl := lv_entry ([.ref (ad 38)]) (n := 2) (Nat.le_of_ble_eq_true rfl)
  rw [lg_entry_eq]
  generalize (lg_sl ([.ref (ad 38)]) ++ List.replicate (2 - (lg_sl ([.ref (ad 38)])).length) Slot.unset).toArray = ls at hl ⊢
  have hl : lv_has ls 2 [(0, .ref (ad 38))] := hl
  have hlen0 : M.length ≤ 2400 ∧ (M ++ F).length ≤ 2400 := by have := hTH.1.2.2.1; have := hTH.1.2.2.2; refine ⟨?_, by omega⟩; rw [List.length_append] at *; omega
  obtain ⟨hl1, hl2⟩ := hlen0
  refine lv_aload_n hx hb dX6_makeWanted_0 rfl (lv_at hl 0 rfl) ?_
  refine va_get (D := D) (T := TX6) (N := 11) hx hb hts jnX6 hown hK hP 38 (wd_38 y ad cap I J) rfl 0 (by decide) (hts _ fl_X6_9) (fun _ h9 => h9) rfl dX6_makeWanted_1 ?_
  refine lv_topi (fun v1 ev1 => ?_)
  obtain rfl : v1 = (nI M.length) := by
    rw [ev1]; exact hTH.1.1
  refine lv_aload_n hx hb dX6_makeWanted_4 rfl (lv_at hl 0 rfl) ?_
  refine va_get (D := D) (T := TX6) (N := 11) hx hb hts jnX6 hown hK hP 38 (wd_38 y ad cap I J) rfl 1 (by decide) (hts _ fl_X6_15) (fun _ h9 => h9) rfl dX6_makeWanted_5 ?_
  refine lv_topi (fun v5 ev5 => ?_)
  obtain rfl : v5 = (nI ((M ++ F).length)) := by
    rw [ev5]; exact hTH.1.2.1
  refine lv_icmp_ne (tgt := 13) hx hb dX6_makeWanted_8 (by decide) (fun c8 => ?_) (fun c8 => ?_)
  · skip
    have c8 := mt (nI_eq (a := M.length) (b := ((M ++ F).length)) (by omega) (by omega)).mpr c8
    have hlen : M.length ≤ (M ++ F).length := by rw [List.length_append]; omega
    have hcp := hTH.1.2.2.1
    have hcp2 := hTH.1.2.2.2
    refine lv_aload_n hx hb dX6_makeWanted_13 rfl (lv_at hl 0 rfl) ?_
    refine va_get (D := D) (T := TX6) (N := 11) hx hb hts jnX6 hown hK hP 38 (wd_38 y ad cap I J) rfl 0 (by decide) (hts _ fl_X6_9) (fun _ h9 => h9) rfl dX6_makeWanted_14 ?_
    refine lv_topi (fun v14 ev14 => ?_)
    obtain rfl : v14 = (nI M.length) := by
      rw [ev14]; exact hTH.1.1
    refine lv_istore_n (lv' := [(1, .int (nI M.length)), (0, .ref (ad 38))]) hx hb dX6_makeWanted_17 rfl hl (by decide) rfl (fun ls hl => ?_)
    have loop18 : ∀ (n18 : Nat) (k : Nat) (I9 : Nat → Nat → Int32) , (M.length ≤ k) → (k ≤ (M ++ F).length) → (∀ t, t < k → I9 44 t = nI (rk (M ++ F) t)) → (∀ s, s < 40 → I9 46 s = nI (cnt ((M ++ F).take k) s)) → (EqX [44, 46] I I9) → (M ++ F).length + 1 ≤ k + n18 → ∀ (H : Heap) (locs : List Loc), va_P D vwCl (Wd y ad cap I9 J) H → va_D A (Wd y ad cap I9 J) → va_S A s.heap H locs → ∀ ls : Array Slot, lv_has ls 2 [(0, .ref (ad 38)), (1, .int (nI k))] → W p l e (headSpec [.code yX6_makeWanted cX6_makeWanted 2 (some .boolean)] ({ frames := 0, cells := 0, slots := 0, locals := 0 })).room s m ([.ref (ad 38)] : List Value).toArray below meth c H locs 0 0 (MQ below (va_Qi (fun (r : Int32) (u : St4) => ∃ I', u = (ad, cap, I', J) ∧ EqX [38, 44, 46] I I' ∧ (F = [] → r = 0 ∧ I' = I) ∧ (F ≠ [] → r = 1 ∧ TH I' J T (cap 0) (M ++ F) [])) (Aft D (Wt y) (Wd y ad cap I J) s.heap.size) A) ([.ref (ad 38)] : List Value).toArray s 0 0 A) (F0 m 18 ls []) := by
      intro n18
      induction n18 with
      | zero =>
        intro k I9 hk0 hk h44 h46 hEq hmeas
        exact absurd hmeas (by omega)
      | succ n18 ih18 =>
        intro k I9 hk0 hk h44 h46 hEq hmeas H locs hP hD hS ls hl
        refine lv_iload_n hx hb dX6_makeWanted_18 rfl (lv_at hl 1 rfl) ?_
        refine lv_aload_n hx hb dX6_makeWanted_19 rfl (lv_at hl 0 rfl) ?_
        refine va_get (D := D) (T := TX6) (N := 11) hx hb hts jnX6 hown hK hP 38 (wd_38 y ad cap I9 J) rfl 1 (by decide) (hts _ fl_X6_15) (fun _ h9 => h9) rfl dX6_makeWanted_20 ?_
        refine lv_topi (fun v20 ev20 => ?_)
        obtain rfl : v20 = (nI ((M ++ F).length)) := by
          rw [ev20, hEq 38 (by decide)]; exact hTH.1.2.1
        refine lv_icmp_ge (tgt := 64) hx hb dX6_makeWanted_23 (by decide) (fun c23 => ?_) (fun c23 => ?_)
        · skip
          have c23 := (nI_leI (a := ((M ++ F).length)) (b := k) (by omega) (by omega)).mp c23
          refine lv_aload_n hx hb dX6_makeWanted_64 rfl (lv_at hl 0 rfl) ?_
          refine lv_aload_n hx hb dX6_makeWanted_65 rfl (lv_at hl 0 rfl) ?_
          refine va_get (D := D) (T := TX6) (N := 11) hx hb hts jnX6 hown hK hP 38 (wd_38 y ad cap I9 J) rfl 1 (by decide) (hts _ fl_X6_15) (fun _ h9 => h9) rfl dX6_makeWanted_66 ?_
          refine lv_topi (fun v66 ev66 => ?_)
          obtain rfl : v66 = (nI ((M ++ F).length)) := by
            rw [ev66, hEq 38 (by decide)]; exact hTH.1.2.1
          refine va_put (D := D) (T := TX6) (N := 11) (v := .int (nI ((M ++ F).length))) (ty := .int) hx hb hts jnX6 tyX6 tyX6_ok nmX6 hown hK hP hD hS 38 (wd_38 y ad cap I9 J) rfl 0 (by decide) (hts _ fl_X6_9) (fun _ h9 => h9) rfl (by decide +kernel) rfl rfl (Nat.le_of_ble_eq_true rfl) dX6_makeWanted_69 (fun H locs hP hD hS => ?_)
          rw [wp_38_0] at hP hD
          generalize eI69 : va_up I9 38 (upd (I9 38) 0 (nI ((M ++ F).length))) = I69 at hP hD
          refine lv_iconst (v := 1) hx hb dX6_makeWanted_72 (by decide) ?_
          refine W.zret (v := 1) hx hb hr (by decide) (fun t ht hW => ⟨⟨_, (ad, cap, I69, J), rfl, ?_, by rw [ht]; exact hP, by show va_D (va_A (Wd y ad cap I J) s.heap.size) _; rw [hAe]; exact hD⟩, hS.F ht⟩) hS.2.2 dX6_makeWanted_73
          have hk9 : k = (M ++ F).length := by omega
          rw [hk9] at h44 h46
          rw [List.take_length] at h46
          have g := TH_make hTH hEq h44 h46 eI69
          refine ⟨_, rfl, ?_, fun h9 => absurd (show M.length = (M ++ F).length by rw [h9, List.append_nil]) c8, fun _ => ⟨rfl, g⟩⟩
          subst eI69
          exact EqX.up (EqX.tr2 (S1 := []) EqX.rf hEq (by decide) (by decide)) (by decide)
        · skip
          have c23 := mt (nI_leI (a := ((M ++ F).length)) (b := k) (by omega) (by omega)).mpr c23
          obtain ⟨tw1, tw2, tw3, tw4⟩ := hTW.1 k (by omega)
          have hrk := rk_le (M ++ F) k
          refine lv_aload_n hx hb dX6_makeWanted_26 rfl (lv_at hl 0 rfl) ?_
          refine va_get (D := D) (T := TX6) (N := 11) hx hb hts jnX6 hown hK hP 38 (wd_38 y ad cap I9 J) rfl 7 (by decide) (hts _ fl_X6_34) (fun _ h9 => h9) rfl dX6_makeWanted_27 ?_
          refine lv_iload_n hx hb dX6_makeWanted_30 rfl (lv_at hl 1 rfl) ?_
          refine lv_aload_n hx hb dX6_makeWanted_31 rfl (lv_at hl 0 rfl) ?_
          refine va_get (D := D) (T := TX6) (N := 11) hx hb hts jnX6 hown hK hP 38 (wd_38 y ad cap I9 J) rfl 9 (by decide) (hts _ fl_X6_41) (fun _ h9 => h9) rfl dX6_makeWanted_32 ?_
          refine lv_aload_n hx hb dX6_makeWanted_35 rfl (lv_at hl 0 rfl) ?_
          refine va_get (D := D) (T := TX6) (N := 11) hx hb hts jnX6 hown hK hP 38 (wd_38 y ad cap I9 J) rfl 2 (by decide) (hts _ fl_X6_18) (fun _ h9 => h9) rfl dX6_makeWanted_36 ?_
          refine lv_iload_n hx hb dX6_makeWanted_39 rfl (lv_at hl 1 rfl) ?_
          refine va_iald (D := D) hx hb hK hP 39 0 (wd_39 y ad cap I9 J) rfl (vp_in_nI (by omega) (by omega)) dX6_makeWanted_40 ?_
          rw [nI_clamp (n := k) (by omega)]
          refine lv_topi (fun v40 ev40 => ?_)
          obtain rfl : v40 = (nI ((thA (M ++ F) k).1)) := by
            rw [ev40, hEq 39 (by decide)]; exact (hTH.2.1 _ (by omega)).1
          refine va_iald (D := D) hx hb hK hP 46 0 (wd_46 y ad cap I9 J) rfl (vp_in_nI (by omega) (by omega)) dX6_makeWanted_41 ?_
          rw [nI_clamp (n := (thA (M ++ F) k).1) (by omega)]
          refine lv_topi (fun v41 ev41 => ?_)
          obtain rfl : v41 = (nI (rk (M ++ F) k)) := by
            rw [ev41]; exact h46 _ (by omega)
          refine va_iast (D := D) hx hb hK hP hD hS 44 0 (wd_44 y ad cap I9 J) rfl (vp_in_nI (by omega) (by omega)) dX6_makeWanted_42 (fun H locs hP hD hS => ?_)
          rw [nI_clamp (n := k) (by omega)] at hP hD
          rw [ws_44] at hP hD
          generalize eI42 : va_up I9 44 (upd (I9 44) k (nI (rk (M ++ F) k))) = I42 at hP hD
          refine lv_aload_n hx hb dX6_makeWanted_43 rfl (lv_at hl 0 rfl) ?_
          refine va_get (D := D) (T := TX6) (N := 11) hx hb hts jnX6 hown hK hP 38 (wd_38 y ad cap I42 J) rfl 9 (by decide) (hts _ fl_X6_41) (fun _ h9 => h9) rfl dX6_makeWanted_44 ?_
          refine lv_aload_n hx hb dX6_makeWanted_47 rfl (lv_at hl 0 rfl) ?_
          refine va_get (D := D) (T := TX6) (N := 11) hx hb hts jnX6 hown hK hP 38 (wd_38 y ad cap I42 J) rfl 2 (by decide) (hts _ fl_X6_18) (fun _ h9 => h9) rfl dX6_makeWanted_48 ?_
          refine lv_iload_n hx hb dX6_makeWanted_51 rfl (lv_at hl 1 rfl) ?_
          refine va_iald (D := D) hx hb hK hP 39 0 (wd_39 y ad cap I42 J) rfl (vp_in_nI (by omega) (by omega)) dX6_makeWanted_52 ?_
          rw [nI_clamp (n := k) (by omega)]
          refine lv_topi (fun v52 ev52 => ?_)
          obtain rfl : v52 = (nI ((thA (M ++ F) k).1)) := by
            rw [ev52, ← eI42]; simp only [va_up]; rw [if_neg (by decide), hEq 39 (by decide)]; exact (hTH.2.1 _ (by omega)).1
          refine lv_dup2_11 hx hb dX6_makeWanted_53 rfl rfl ?_
          refine va_iald (D := D) hx hb hK hP 46 0 (wd_46 y ad cap I42 J) rfl (vp_in_nI (by omega) (by omega)) dX6_makeWanted_54 ?_
          rw [nI_clamp (n := (thA (M ++ F) k).1) (by omega)]
          refine lv_topi (fun v54 ev54 => ?_)
          obtain rfl : v54 = (nI (rk (M ++ F) k)) := by
            rw [ev54, ← eI42]; simp only [va_up]; rw [if_neg (by decide)]; exact h46 _ (by omega)
          refine lv_iconst (v := 1) hx hb dX6_makeWanted_55 (by decide) ?_
          refine lv_iadd hx hb dX6_makeWanted_56 ?_
          refine lv_topi (fun v56 ev56 => ?_)
          obtain rfl : v56 = (nI ((rk (M ++ F) k) + 1)) := by rw [ev56, show (1 : Int32) = nI 1 from rfl, nI_add]
          refine va_iast (D := D) hx hb hK hP hD hS 46 0 (wd_46 y ad cap I42 J) rfl (vp_in_nI (by omega) (by omega)) dX6_makeWanted_57 (fun H locs hP hD hS => ?_)
          rw [nI_clamp (n := (thA (M ++ F) k).1) (by omega)] at hP hD
          rw [ws_46] at hP hD
          generalize eI57 : va_up I42 46 (upd (I42 46) ((thA (M ++ F) k).1) (nI ((rk (M ++ F) k) + 1))) = I57 at hP hD
          refine lv_iinc (v := (nI (k + 1))) (lv' := [(1, .int (nI (k + 1))), (0, .ref (ad 38))]) hx hb dX6_makeWanted_58 hl (k := 1) rfl (nI_1 _) (by decide) rfl (fun ls hl => ?_)
          refine lv_goto (tgt := 18) hx hb dX6_makeWanted_61 (by decide) ?_
          exact ih18 (k + 1) I57 (by omega) (by omega) (fun t ht => by subst eI57 eI42; rcases lt_s2 ht with h8 | h8; (simp [va_up, upd, h8]); (have hne : t ≠ k := by omega); simpa [va_up, upd, hne] using h44 t h8) (fun s hs => by rw [cnt_take_succ (by omega)]; subst eI57 eI42; by_cases h8 : s = (thA (M ++ F) k).1; (rw [if_pos h8]; simp [va_up, upd, h8, rk]); (rw [if_neg h8]; simpa [va_up, upd, h8] using h46 s hs)) (by subst eI57 eI42; refine EqX.up (EqX.up hEq ?_) ?_ <;> decide) (by omega) _ _ hP hD hS ls (by exact lv_sub hl [1, 0] rfl)
    exact loop18 ((M ++ F).length + 1) M.length I (by omega) (by omega) (fun t ht => by rw [rk_app ht]; exact hTH.2.2.1 t ht) (fun s hs => by rw [List.take_left]; exact hTH.2.2.2.1 s hs) EqX.rf (by omega) _ _ hP hD hS ls (by exact lv_sub hl [1, 0] rfl)
  · skip
    have c8 := (nI_eq (a := M.length) (b := ((M ++ F).length)) (by omega) (by omega)).mp c8
    refine lv_iconst (v := 0) hx hb dX6_makeWanted_11 (by decide) ?_
    refine W.zret (v := 0) hx hb hr (by decide) (fun t ht hW => ⟨⟨_, (ad, cap, I, J), rfl, ?_, by rw [ht]; exact hP, by show va_D (va_A (Wd y ad cap I J) s.heap.size) _; rw [hAe]; exact hD⟩, hS.F ht⟩) hS.2.2 dX6_makeWanted_12
    have hF : F = [] := by rw [List.length_append] at c8; exact List.length_eq_zero_iff.mp (by omega)
    exact ⟨I, rfl, EqX.rf, fun _ => ⟨rfl, rfl⟩, fun h9 => absurd hF h9⟩
