set_option maxHeartbeats 4000000 in
set_option maxRecDepth 100000 in
theorem c_X4_wantThunk (l : Launch) (D : va_G) (y : Nat → ClassId) (ad : Nat → Nat) (cap : Nat → Nat) (I : Nat → Nat → Int32) (J : Nat → Nat → Int64) (sz : Nat) {T : Nat → Nat → Nat} {M F : List Th} (hT : RT18 I T) (hW : WF T) (hM : (M ++ F).length ≤ 2400) (hTW : TW T (M ++ F)) (hJ : ∀ s, s < T 0 0 → J 35 s = lN (sA T (cnt M) s) ∧ J 36 s = lN (pS T (cnt M) s) ∧ J 37 s = lN (pE T (cnt M) s)) (hTH : TH I J T (cap 0) M F) (hPL : PL J T M) (htz : 0 < T 0 5) (hcp : isCap (cap 0)) (hU : ∀ t, t < (M ++ F).length → I 43 t = 0) {b0 r0 : Nat} (hb0 : b0 < T 0 2) (hr0 : r0 ≤ 2401) : Met l yX4_wantThunk [.code yX4_wantThunk cX4_wantThunk 12 none] ({ frames := 4, cells := (capAt (cap 0) (M ++ (F ++ wntL T M F r0 b0)).length - cap 0), slots := (50 * (capAt (cap 0) (M ++ (F ++ wntL T M F r0 b0)).length - cap 0)), locals := 108 }) (va_Pc [.ref (ad 17), .int (nI b0), .int (nI r0)] (PW D y (Wd y ad cap I J) sz)) (va_Qv (fun u : St4 => ∃ cap' I' J', u = (ad, cap', I', J') ∧ cap' 0 = capAt (cap 0) (M ++ (F ++ wntL T M F r0 b0)).length ∧ TH I' J' T (cap' 0) M (F ++ wntL T M F r0 b0) ∧ EqX [38, 39, 40, 41, 42, 43, 44, 47] I I' ∧ EqJ [45] J J' ∧ (∀ t, t < M.length → J' 45 t = J 45 t) ∧ (∀ t, t < (M ++ (F ++ wntL T M F r0 b0)).length → I' 43 t = 0)) (Aft D (Wt y) (Wd y ad cap I J) sz) (va_A (Wd y ad cap I J) sz)) (capAt (cap 0) (M ++ (F ++ wntL T M F r0 b0)).length - cap 0) (50 * (capAt (cap 0) (M ++ (F ++ wntL T M F r0 b0)).length - cap 0)) (va_A (Wd y ad cap I J) sz) := by
  refine Met.ofW (cc := cX4_wantThunk) (maxL := 12) (ret := none) (by decide) rfl ?_
  intro p e s m args below meth c s₁ B hml hv
  obtain ⟨rfl, rfl, hP, hD0, hO⟩ := hv
  have hx := B.exec
  have hb := B.bytes
  have hr := B.returns
  have hown : s.vm.findClass RX4 = some m.cls := findClass_of_methodNamed B.named
  have hlocks := B.notSynchronized
  have hK := hO.1
  have hts : ∀ w ∈ lw_E, w.before ([.ref (ad 17), .int (nI b0), .int (nI r0)] : List Value).toArray s = true := fun w h => hO.2 w h _
  clear B
  have hD := hD0.self (sz := s.heap.size)
  generalize hAe : va_A (Wd y ad cap I J) s.heap.size = A at hD ⊢
  have hA : ∀ q : Nat, s.heap.size ≤ q → A q := fun q h => by rw [← hAe]; exact Or.inr h
  have hS : va_S A s.heap s.heap [] := va_S.rf
  have hl := lv_entry ([.ref (ad 17), .int (nI b0), .int (nI r0)]) (n := 12) (Nat.le_of_ble_eq_true rfl)
  rw [lg_entry_eq]
  generalize (lg_sl ([.ref (ad 17), .int (nI b0), .int (nI r0)]) ++ List.replicate (12 - (lg_sl ([.ref (ad 17), .int (nI b0), .int (nI r0)])).length) Slot.unset).toArray = ls at hl ⊢
  have hl : lv_has ls 12 [(0, .ref (ad 17)), (1, .int (nI b0)), (2, .int (nI r0))] := hl
  have hW0 := hW
  obtain ⟨⟨w1, w2, w3, w4, w5, w6, w7⟩, wS, wL, wB, wK, wTk, wT0⟩ := hW
  obtain ⟨x1, x2, x6, x7, x8⟩ := wB b0 hb0
  obtain ⟨x3, x4, x5⟩ := wS _ x1
  have hnM : ∀ s, cnt M s ≤ 2400 := fun s => by have := cnt_le M s; rw [List.length_append] at hM; omega
  have hlen := hM
  rw [List.length_append] at hlen
  refine lv_aload_n hx hb dX4_wantThunk_0 rfl (lv_at hl 0 rfl) ?_
  refine va_get (D := D) (T := TX4) (N := 9) hx hb hts jnX4 hown hK hP 17 (wd_17 y ad cap I J) rfl 0 (by decide) (hts _ fl_X4_12) (fun _ h9 => h9) rfl dX4_wantThunk_1 ?_
  refine va_getN (D := D) (T := TX7) (N := 8) hx hb hts jnX7 hown hK hP 18 (wd_18 y ad cap I J) rfl 3 (by decide) (hts _ fn_X4_85) (fun _ h9 => h9) rfl dX4_wantThunk_4 ?_
  refine va_getN (D := D) (T := TX1) (N := 5) hx hb hts jnX1 hown hK hP 29 (wd_29 y ad cap I J) rfl 4 (by decide) (hts _ fn_X4_108) (fun _ h9 => h9) rfl dX4_wantThunk_7 ?_
  refine lv_iload_n hx hb dX4_wantThunk_10 rfl (lv_at hl 1 rfl) ?_
  refine va_iald (D := D) hx hb hK hP 33 0 (wd_33 y ad cap I J) rfl (vp_in_nI (by omega) (by omega)) dX4_wantThunk_11 ?_
  rw [nI_clamp (n := b0) (by omega)]
  refine lv_topi (fun v11 ev11 => ?_)
  obtain rfl : v11 = (nI (T 9 b0)) := by
    rw [ev11]; exact (hT.2.2.2.1 _ (by omega)).2.2.2
  refine lv_istore_n (lv' := [(3, .int (nI (T 9 b0))), (0, .ref (ad 17)), (1, .int (nI b0)), (2, .int (nI r0))]) hx hb dX4_wantThunk_12 rfl hl (by decide) rfl (fun ls hl => ?_)
  refine lv_aload_n hx hb dX4_wantThunk_13 rfl (lv_at hl 1 rfl) ?_
  refine lv_iload_n hx hb dX4_wantThunk_14 rfl (lv_at hl 2 rfl) ?_
  refine rk_l (run_v (As := [.int (nI b0)]) (rest := []) (b := (ad 17)) hx hb hml hown hO.2 (c_X4_branchAddress l D y ad cap I J hT hW0 hnM hJ (b0 := b0) hb0) k_X4_branchAddress ml_X4_111 ⟨rfl, rfl⟩ ⟨Nat.le_of_ble_eq_true rfl, Nat.le_of_ble_eq_true rfl⟩ (pre_VR hO hP (wd_17 y ad cap I J) rfl) rfl hl.1 rfl (Nat.le_of_ble_eq_true rfl) dX4_wantThunk_15 ⟨(Nat.zero_le _), (Nat.zero_le _)⟩) (fun r15 er15 => ?_)
  try dsimp only at er15
  obtain rfl : r15 = (lN (braA T (cnt M) b0)) := by
    exact er15
  refine lv_lstore (lv' := [(4, .long (lN (braA T (cnt M) b0))), (3, .int (nI (T 9 b0))), (0, .ref (ad 17)), (1, .int (nI b0)), (2, .int (nI r0))]) hx hb dX4_wantThunk_18 hl (by decide) rfl (fun ls hl => ?_)
  refine lv_iconst (v := (-1)) hx hb dX4_wantThunk_20 (by decide) ?_
  refine lv_istore (lv' := [(6, .int (-1)), (4, .long (lN (braA T (cnt M) b0))), (3, .int (nI (T 9 b0))), (0, .ref (ad 17)), (1, .int (nI b0)), (2, .int (nI r0))]) hx hb dX4_wantThunk_21 hl (by decide) rfl (fun ls hl => ?_)
  refine lv_lconst (v := 0) hx hb dX4_wantThunk_23 (by decide) ?_
  refine lv_lstore (lv' := [(7, .long 0), (6, .int (-1)), (4, .long (lN (braA T (cnt M) b0))), (3, .int (nI (T 9 b0))), (0, .ref (ad 17)), (1, .int (nI b0)), (2, .int (nI r0))]) hx hb dX4_wantThunk_24 hl (by decide) rfl (fun ls hl => ?_)
  refine lv_iconst (v := 0) hx hb dX4_wantThunk_26 (by decide) ?_
  refine lv_istore (lv' := [(9, .int 0), (7, .long 0), (6, .int (-1)), (4, .long (lN (braA T (cnt M) b0))), (3, .int (nI (T 9 b0))), (0, .ref (ad 17)), (1, .int (nI b0)), (2, .int (nI r0))]) hx hb dX4_wantThunk_27 hl (by decide) rfl (fun ls hl => ?_)
  have loop29 : ∀ (n29 : Nat) (k : Nat) (x7 : Int64) , (k ≤ T 0 0) → (∀ u, wst T M b0 k = some u → x7 = lN (dst (braA T (cnt M) b0) (pE T (cnt M) u))) → (∀ j, j < k → couB T M b0 j = true → ¬ inB F j (T 9 b0) = true) → T 0 0 + 1 ≤ k + n29 → ∀ ls : Array Slot, lv_has ls 12 [(0, .ref (ad 17)), (1, .int (nI b0)), (2, .int (nI r0)), (3, .int (nI (T 9 b0))), (4, .long (lN (braA T (cnt M) b0))), (6, .int (oI (wst T M b0 k))), (7, .long x7), (9, .int (nI k))] → W p l e (headSpec [.code yX4_wantThunk cX4_wantThunk 12 none] ({ frames := 4, cells := (capAt (cap 0) (M ++ (F ++ wntL T M F r0 b0)).length - cap 0), slots := (50 * (capAt (cap 0) (M ++ (F ++ wntL T M F r0 b0)).length - cap 0)), locals := 108 })).room s m ([.ref (ad 17), .int (nI b0), .int (nI r0)] : List Value).toArray below meth c s.heap [] 0 0 (MQ below (va_Qv (fun u : St4 => ∃ cap' I' J', u = (ad, cap', I', J') ∧ cap' 0 = capAt (cap 0) (M ++ (F ++ wntL T M F r0 b0)).length ∧ TH I' J' T (cap' 0) M (F ++ wntL T M F r0 b0) ∧ EqX [38, 39, 40, 41, 42, 43, 44, 47] I I' ∧ EqJ [45] J J' ∧ (∀ t, t < M.length → J' 45 t = J 45 t) ∧ (∀ t, t < (M ++ (F ++ wntL T M F r0 b0)).length → I' 43 t = 0)) (Aft D (Wt y) (Wd y ad cap I J) s.heap.size) A) ([.ref (ad 17), .int (nI b0), .int (nI r0)] : List Value).toArray s (capAt (cap 0) (M ++ (F ++ wntL T M F r0 b0)).length - cap 0) (50 * (capAt (cap 0) (M ++ (F ++ wntL T M F r0 b0)).length - cap 0)) A) (F0 m 29 ls []) := by
    intro n29
    induction n29 with
    | zero =>
      intro k x7 hk h7 hno hmeas
      exact absurd hmeas (by omega)
    | succ n29 ih29 =>
      intro k x7 hk h7 hno hmeas ls hl
      refine lv_iload hx hb dX4_wantThunk_29 (lv_at hl 7 rfl) ?_
      refine lv_aload_n hx hb dX4_wantThunk_31 rfl (lv_at hl 0 rfl) ?_
      refine va_get (D := D) (T := TX4) (N := 9) hx hb hts jnX4 hown hK hP 17 (wd_17 y ad cap I J) rfl 0 (by decide) (hts _ fl_X4_12) (fun _ h9 => h9) rfl dX4_wantThunk_32 ?_
      refine va_getN (D := D) (T := TX7) (N := 8) hx hb hts jnX7 hown hK hP 18 (wd_18 y ad cap I J) rfl 0 (by decide) (hts _ fn_X4_115) (fun _ h9 => h9) rfl dX4_wantThunk_35 ?_
      refine va_getN (D := D) (T := TX5) (N := 5) hx hb hts jnX5 hown hK hP 19 (wd_19 y ad cap I J) rfl 0 (by decide) (hts _ fn_X4_119) (fun _ h9 => h9) rfl dX4_wantThunk_38 ?_
      refine lv_topi (fun v38 ev38 => ?_)
      obtain rfl : v38 = (nI (T 0 0)) := by
        rw [ev38]; exact hT.1.1
      refine lv_icmp_ge (tgt := 117) hx hb dX4_wantThunk_41 (by decide) (fun c41 => ?_) (fun c41 => ?_)
      · skip
        have c41 := (nI_leI (a := (T 0 0)) (b := k) (by omega) (by omega)).mp c41
        refine lv_iload hx hb dX4_wantThunk_117 (lv_at hl 5 rfl) ?_
        refine lv_iconst (v := (-1)) hx hb dX4_wantThunk_119 (by decide) ?_
        refine lv_icmp_eq (tgt := 135) hx hb dX4_wantThunk_120 (by decide) (fun c120 => ?_) (fun c120 => ?_)
        · skip
          have hk9 : k = T 0 0 := by omega
          rw [hk9] at c120 hno
          have hw0 := (oI_neg (fun u hu => by have := wst_lt (T 0 0) u hu; omega)).mp c120
          have hL : wntL T M F r0 b0 = [] := by unfold wntL; rw [if_neg (anyW_no hno), hw0]
          refine W.widen (k := capAt (cap 0) (M ++ (F ++ wntL T M F r0 b0)).length - cap 0) (n := 50 * (capAt (cap 0) (M ++ (F ++ wntL T M F r0 b0)).length - cap 0)) (Nat.zero_le _) (Nat.zero_le _) ?_
          refine W.vret hx hb hr (fun t ht hW => ⟨⟨(ad, cap, I, J), rfl, ?_, by rw [ht]; exact hP, by show va_D (va_A (Wd y ad cap I J) s.heap.size) _; rw [hAe]; exact hD⟩, hS.F ht⟩) hS.2.2 dX4_wantThunk_135
          rw [hL, List.append_nil]
          have hca : capAt (cap 0) (M ++ F).length = cap 0 := by unfold capAt; rw [if_pos hTH.1.2.2.1]
          exact ⟨cap, I, J, rfl, hca.symm, hTH, EqX.rf, EqJ.rf, fun _ _ => rfl, hU⟩
        · skip
          have hk9 : k = T 0 0 := by omega
          rw [hk9] at c120 hno hl
          obtain ⟨u, hu⟩ := Option.ne_none_iff_exists'.mp (fun h9 => c120 ((oI_neg (fun u hu => by have := wst_lt (T 0 0) u hu; omega)).mpr h9))
          rw [hu] at hl
          simp only [oI] at hl
          have hL : wntL T M F r0 b0 = [(u, T 9 b0, r0, b0)] := by unfold wntL; rw [if_neg (anyW_no hno), hu]
          obtain ⟨hu1, hu2⟩ := wst_lt (T 0 0) u hu
          have hin : inB (M ++ F) u (T 9 b0) = false := by
            rw [inB_app, (cou_inM hu2).1]
            have := hno u hu1 hu2
            simpa using this
          have hlen2 : (M ++ (F ++ [(u, T 9 b0, r0, b0)])).length = (M ++ F).length + 1 := by simp; omega
          have hn24 : (M ++ F).length < 2400 := by
            have h9 := TW_len hW0 (wntL_ok (r := r0) (b := b0) hW0 hb0 hr0 hTW)
            rw [hL, hlen2] at h9
            omega
          have hlc := hTH.1.2.2.1
          have hcN := capN_at hcp hlc hn24
          refine lv_aload_n hx hb dX4_wantThunk_123 rfl (lv_at hl 0 rfl) ?_
          refine va_get (D := D) (T := TX4) (N := 9) hx hb hts jnX4 hown hK hP 17 (wd_17 y ad cap I J) rfl 2 (by decide) (hts _ fl_X4_28) (fun _ h9 => h9) rfl dX4_wantThunk_124 ?_
          refine lv_iload hx hb dX4_wantThunk_127 (lv_at hl 5 rfl) ?_
          refine lv_iload_n hx hb dX4_wantThunk_129 rfl (lv_at hl 3 rfl) ?_
          refine lv_iload_n hx hb dX4_wantThunk_130 rfl (lv_at hl 2 rfl) ?_
          refine lv_iload_n hx hb dX4_wantThunk_131 rfl (lv_at hl 1 rfl) ?_
          refine wk_v (Wf := Wt y) (run_vn (As := [.int (nI u), .int (nI (T 9 b0)), .int (nI r0), .int (nI b0)]) (rest := []) (b := (ad 38)) hx hb hml hown hO.2 (c_X6_want l D y ad cap I J s.heap.size hTH hcp hn24 (s0 := u) (l0 := T 9 b0) (r0 := r0) (b0 := b0) (by omega) (by omega) hin) k_X6_want mn_X4_139 ⟨rfl, rfl⟩ ⟨Nat.le_of_ble_eq_true rfl, Nat.le_of_ble_eq_true rfl⟩ (pre_VW hO hP hD (wd_38 y ad cap I J) rfl) rfl hl.1 rfl (Nat.le_of_ble_eq_true rfl) dX4_wantThunk_132 ⟨(by show 0 + (capN (cap 0) (M ++ F).length - cap 0) ≤ capAt (cap 0) (M ++ (F ++ wntL T M F r0 b0)).length - cap 0; rw [hL, hlen2, ← hcN]; omega), (by show 0 + 50 * (capN (cap 0) (M ++ F).length - cap 0) ≤ 50 * (capAt (cap 0) (M ++ (F ++ wntL T M F r0 b0)).length - cap 0); rw [hL, hlen2, ← hcN]; omega)⟩) hD hS hA (fun u132 H locs hp132 hP hD hS => ?_)
          try dsimp only at hp132
          obtain ⟨cap132, I132, J132, rfl, hc132, hTH132, hE132, hEJ132, hR132, hU132, hZ132⟩ := hp132
          have hP : va_P D vwCl (Wd y ad cap132 I132 J132) H := hP
          have hD : va_D A (Wd y ad cap132 I132 J132) := hD
          refine W.widen (k := capAt (cap 0) (M ++ (F ++ wntL T M F r0 b0)).length - cap 0) (n := 50 * (capAt (cap 0) (M ++ (F ++ wntL T M F r0 b0)).length - cap 0)) (by rw [hL, hlen2, ← hcN]; omega) (by rw [hL, hlen2, ← hcN]; omega) ?_
          refine W.vret hx hb hr (fun t ht hW => ⟨⟨(ad, cap132, I132, J132), rfl, ?_, by rw [ht]; exact hP, by show va_D (va_A (Wd y ad cap I J) s.heap.size) _; rw [hAe]; exact hD⟩, hS.F ht⟩) hS.2.2 dX4_wantThunk_135
          rw [hL]
          refine ⟨cap132, I132, J132, rfl, by rw [hc132, hlen2, hcN], hTH132, hE132, hEJ132, hR132, ?_⟩
          intro t ht
          rw [hlen2] at ht
          rcases lt_s2 ht with rfl | h9
          · exact hZ132
          · rw [hU132 t h9]
            exact hU t h9
      · skip
        have c41 := mt (nI_leI (a := (T 0 0)) (b := k) (by omega) (by omega)).mpr c41
        refine lv_aload_n hx hb dX4_wantThunk_44 rfl (lv_at hl 0 rfl) ?_
        refine lv_iload hx hb dX4_wantThunk_45 (lv_at hl 7 rfl) ?_
        refine lv_iload_n hx hb dX4_wantThunk_47 rfl (lv_at hl 1 rfl) ?_
        refine rk_i (run_v (As := [.int (nI k), .int (nI b0)]) (rest := []) (b := (ad 17)) hx hb hml hown hO.2 (c_X4_couldHelp l D y ad cap I J hT hW0 hM hTW hJ hTH hPL htz (s0 := k) (b0 := b0) (by omega) hb0) k_X4_couldHelp ml_X4_122 ⟨rfl, rfl⟩ ⟨Nat.le_of_ble_eq_true rfl, Nat.le_of_ble_eq_true rfl⟩ (pre_VR hO hP (wd_17 y ad cap I J) rfl) rfl hl.1 rfl (Nat.le_of_ble_eq_true rfl) dX4_wantThunk_48 ⟨(Nat.zero_le _), (Nat.zero_le _)⟩) (fun r48 er48 => ?_)
        try dsimp only at er48
        refine lv_if_ne (tgt := 57) hx hb dX4_wantThunk_51 (by decide) (fun c51 => ?_) (fun c51 => ?_)
        · skip
          have c51 := if01_n er48 c51
          refine lv_aload_n hx hb dX4_wantThunk_57 rfl (lv_at hl 0 rfl) ?_
          refine va_get (D := D) (T := TX4) (N := 9) hx hb hts jnX4 hown hK hP 17 (wd_17 y ad cap I J) rfl 2 (by decide) (hts _ fl_X4_28) (fun _ h9 => h9) rfl dX4_wantThunk_58 ?_
          refine lv_iload hx hb dX4_wantThunk_61 (lv_at hl 7 rfl) ?_
          refine lv_iload_n hx hb dX4_wantThunk_63 rfl (lv_at hl 3 rfl) ?_
          refine rk_i (run_vn (As := [.int (nI k), .int (nI (T 9 b0))]) (rest := []) (b := (ad 38)) hx hb hml hown hO.2 (c_X6_isWanted l D y (wd_38 y ad cap I J) (wd_47 y ad cap I J) (s0 := k) (l0 := T 9 b0) (by omega) (by omega)) k_X6_isWanted mn_X4_126 ⟨rfl, rfl⟩ ⟨Nat.le_of_ble_eq_true rfl, Nat.le_of_ble_eq_true rfl⟩ (pre_VR hO hP (wd_38 y ad cap I J) rfl) rfl hl.1 rfl (Nat.le_of_ble_eq_true rfl) dX4_wantThunk_64 ⟨(Nat.zero_le _), (Nat.zero_le _)⟩) (fun r64 er64 => ?_)
          try dsimp only at er64
          rw [hTH.1.1, hTH.2.2.2.2 _ _ (by omega) (by omega)] at er64
          have hisw := isw (F := F) (by omega) (cou_inM c51).1
          refine lv_if_eq (tgt := 71) hx hb dX4_wantThunk_67 (by decide) (fun c67 => ?_) (fun c67 => ?_)
          · skip
            have c67 := if01_z er64 c67
            have hnw : ¬ inB F k (T 9 b0) = true := fun h9 => c67 (hisw.mpr h9)
            have hpe := pE_le hW0 hnM (s := k) (by omega)
            have hbr := braA_le hW0 hnM hb0
            refine lv_aload_n hx hb dX4_wantThunk_71 rfl (lv_at hl 0 rfl) ?_
            refine va_get (D := D) (T := TX4) (N := 9) hx hb hts jnX4 hown hK hP 17 (wd_17 y ad cap I J) rfl 1 (by decide) (hts _ fl_X4_21) (fun _ h9 => h9) rfl dX4_wantThunk_72 ?_
            refine va_getN (D := D) (T := TX0) (N := 4) hx hb hts jnX0 hown hK hP 34 (wd_34 y ad cap I J) rfl 2 (by decide) (hts _ fn_X4_129) (fun _ h9 => h9) rfl dX4_wantThunk_75 ?_
            refine lv_iload hx hb dX4_wantThunk_78 (lv_at hl 7 rfl) ?_
            refine va_lald (D := D) hx hb hK hP 37 1 (wd_37 y ad cap I J) rfl (vp_in_nI (by omega) (by omega)) dX4_wantThunk_80 ?_
            rw [nI_clamp (n := k) (by omega)]
            refine lv_topl (fun v80 ev80 => ?_)
            obtain rfl : v80 = (lN (pE T (cnt M) k)) := by
              rw [ev80]; exact (hJ _ (by omega)).2.2
            refine lv_lload hx hb dX4_wantThunk_81 (lv_at hl 4 rfl) ?_
            refine lv_lsub hx hb dX4_wantThunk_83 ?_
            refine lv_topl (fun v83 ev83 => ?_)
            refine va_mabs_long hx hb (by rw [hml]; exact hl.1.symm) hown (hts _ ml_X4_133) (hts _ sc_J9_abs_067f4) (hts _ ini_J9) (hts _ cd_J9_abs_067f4) (Nat.le_of_ble_eq_true rfl) (Nat.le_of_ble_eq_true rfl) (Nat.zero_le _) (Nat.zero_le _) dX4_wantThunk_84 ?_
            refine lv_topl (fun v84 ev84 => ?_)
            obtain rfl : v84 = (lN (dst (braA T (cnt M) b0) (pE T (cnt M) k))) := by
              rw [ev84]; exact abs_dst (by omega) (by omega) ev83
            refine lv_lstore (lv' := [(10, .long (lN (dst (braA T (cnt M) b0) (pE T (cnt M) k)))), (0, .ref (ad 17)), (1, .int (nI b0)), (2, .int (nI r0)), (3, .int (nI (T 9 b0))), (4, .long (lN (braA T (cnt M) b0))), (6, .int (oI (wst T M b0 k))), (7, .long x7), (9, .int (nI k))]) hx hb dX4_wantThunk_87 hl (by decide) rfl (fun ls hl => ?_)
            refine lv_iload hx hb dX4_wantThunk_89 (lv_at hl 6 rfl) ?_
            refine lv_iconst (v := (-1)) hx hb dX4_wantThunk_91 (by decide) ?_
            refine lv_icmp_eq (tgt := 103) hx hb dX4_wantThunk_92 (by decide) (fun c92 => ?_) (fun c92 => ?_)
            · skip
              have hnear := (oI_neg (fun u hu => by have := wst_lt k u hu; omega)).mp c92
              have eB := wst_first c51 hnear
              refine lv_iload hx hb dX4_wantThunk_103 (lv_at hl 8 rfl) ?_
              refine lv_istore (lv' := [(6, .int (nI k)), (10, .long (lN (dst (braA T (cnt M) b0) (pE T (cnt M) k)))), (0, .ref (ad 17)), (1, .int (nI b0)), (2, .int (nI r0)), (3, .int (nI (T 9 b0))), (4, .long (lN (braA T (cnt M) b0))), (7, .long x7), (9, .int (nI k))]) hx hb dX4_wantThunk_105 hl (by decide) rfl (fun ls hl => ?_)
              refine lv_lload hx hb dX4_wantThunk_107 (lv_at hl 1 rfl) ?_
              refine lv_lstore (lv' := [(7, .long (lN (dst (braA T (cnt M) b0) (pE T (cnt M) k)))), (6, .int (nI k)), (10, .long (lN (dst (braA T (cnt M) b0) (pE T (cnt M) k)))), (0, .ref (ad 17)), (1, .int (nI b0)), (2, .int (nI r0)), (3, .int (nI (T 9 b0))), (4, .long (lN (braA T (cnt M) b0))), (9, .int (nI k))]) hx hb dX4_wantThunk_109 hl (by decide) rfl (fun ls hl => ?_)
              refine lv_iinc (v := (nI (k + 1))) (lv' := [(9, .int (nI (k + 1))), (7, .long (lN (dst (braA T (cnt M) b0) (pE T (cnt M) k)))), (6, .int (nI k)), (10, .long (lN (dst (braA T (cnt M) b0) (pE T (cnt M) k)))), (0, .ref (ad 17)), (1, .int (nI b0)), (2, .int (nI r0)), (3, .int (nI (T 9 b0))), (4, .long (lN (braA T (cnt M) b0)))]) hx hb dX4_wantThunk_111 hl (k := 8) rfl (nI_1 _) (by decide) rfl (fun ls hl => ?_)
              refine lv_goto (tgt := 29) hx hb dX4_wantThunk_114 (by decide) ?_
              exact ih29 (k + 1) (lN (dst (braA T (cnt M) b0) (pE T (cnt M) k))) (by omega) (fun v hv => by rw [eB] at hv; first | exact h7 v hv | (cases hv; rfl) | (rw [hu] at hv; cases hv; rfl)) (fun j hj hc => by rcases lt_s2 hj with h9 | h9; (subst h9; first | exact hnw | exact absurd hc c51); exact hno j h9 hc) (by omega) ls (by rw [eB]; exact lv_sub hl [4, 5, 6, 7, 8, 2, 1, 0] rfl)
            · skip
              obtain ⟨u, hu⟩ := Option.ne_none_iff_exists'.mp (fun h9 => c92 ((oI_neg (fun u hu => by have := wst_lt k u hu; omega)).mpr h9))
              obtain rfl := h7 u hu
              have hpu := pE_le hW0 hnM (s := u) (by have := wst_lt k u hu; omega)
              have hd1 : dst (braA T (cnt M) b0) (pE T (cnt M) k) < 2 ^ 40 := by unfold dst; split <;> omega
              have hd2 : dst (braA T (cnt M) b0) (pE T (cnt M) u) < 2 ^ 40 := by unfold dst; split <;> omega
              refine lv_lload hx hb dX4_wantThunk_95 (lv_at hl 0 rfl) ?_
              refine lv_lload hx hb dX4_wantThunk_97 (lv_at hl 7 rfl) ?_
              refine W.lcmp hx hb dX4_wantThunk_99 ?_
              refine lv_if_ge (tgt := 111) hx hb dX4_wantThunk_100 (by decide) (fun c100 => ?_) (fun c100 => ?_)
              · skip
                have c100 := lc_ge.mp c100
                rw [pk_lLE (by omega) (by omega)] at c100
                have eB := wst_keep c51 hu (by omega)
                refine lv_iinc (v := (nI (k + 1))) (lv' := [(9, .int (nI (k + 1))), (10, .long (lN (dst (braA T (cnt M) b0) (pE T (cnt M) k)))), (0, .ref (ad 17)), (1, .int (nI b0)), (2, .int (nI r0)), (3, .int (nI (T 9 b0))), (4, .long (lN (braA T (cnt M) b0))), (6, .int (oI (wst T M b0 k))), (7, .long (lN (dst (braA T (cnt M) b0) (pE T (cnt M) u))))]) hx hb dX4_wantThunk_111 hl (k := 8) rfl (nI_1 _) (by decide) rfl (fun ls hl => ?_)
                refine lv_goto (tgt := 29) hx hb dX4_wantThunk_114 (by decide) ?_
                exact ih29 (k + 1) (lN (dst (braA T (cnt M) b0) (pE T (cnt M) u))) (by omega) (fun v hv => by rw [eB] at hv; first | exact h7 v hv | (cases hv; rfl) | (rw [hu] at hv; cases hv; rfl)) (fun j hj hc => by rcases lt_s2 hj with h9 | h9; (subst h9; first | exact hnw | exact absurd hc c51); exact hno j h9 hc) (by omega) ls (by rw [eB]; exact lv_sub hl [2, 3, 4, 5, 6, 7, 8, 0] rfl)
              · skip
                have c100 := mt lc_ge.mpr c100
                rw [pk_lLE (by omega) (by omega)] at c100
                have eB := wst_less c51 hu (by omega)
                refine lv_iload hx hb dX4_wantThunk_103 (lv_at hl 8 rfl) ?_
                refine lv_istore (lv' := [(6, .int (nI k)), (10, .long (lN (dst (braA T (cnt M) b0) (pE T (cnt M) k)))), (0, .ref (ad 17)), (1, .int (nI b0)), (2, .int (nI r0)), (3, .int (nI (T 9 b0))), (4, .long (lN (braA T (cnt M) b0))), (7, .long (lN (dst (braA T (cnt M) b0) (pE T (cnt M) u)))), (9, .int (nI k))]) hx hb dX4_wantThunk_105 hl (by decide) rfl (fun ls hl => ?_)
                refine lv_lload hx hb dX4_wantThunk_107 (lv_at hl 1 rfl) ?_
                refine lv_lstore (lv' := [(7, .long (lN (dst (braA T (cnt M) b0) (pE T (cnt M) k)))), (6, .int (nI k)), (10, .long (lN (dst (braA T (cnt M) b0) (pE T (cnt M) k)))), (0, .ref (ad 17)), (1, .int (nI b0)), (2, .int (nI r0)), (3, .int (nI (T 9 b0))), (4, .long (lN (braA T (cnt M) b0))), (9, .int (nI k))]) hx hb dX4_wantThunk_109 hl (by decide) rfl (fun ls hl => ?_)
                refine lv_iinc (v := (nI (k + 1))) (lv' := [(9, .int (nI (k + 1))), (7, .long (lN (dst (braA T (cnt M) b0) (pE T (cnt M) k)))), (6, .int (nI k)), (10, .long (lN (dst (braA T (cnt M) b0) (pE T (cnt M) k)))), (0, .ref (ad 17)), (1, .int (nI b0)), (2, .int (nI r0)), (3, .int (nI (T 9 b0))), (4, .long (lN (braA T (cnt M) b0)))]) hx hb dX4_wantThunk_111 hl (k := 8) rfl (nI_1 _) (by decide) rfl (fun ls hl => ?_)
                refine lv_goto (tgt := 29) hx hb dX4_wantThunk_114 (by decide) ?_
                exact ih29 (k + 1) (lN (dst (braA T (cnt M) b0) (pE T (cnt M) k))) (by omega) (fun v hv => by rw [eB] at hv; first | exact h7 v hv | (cases hv; rfl) | (rw [hu] at hv; cases hv; rfl)) (fun j hj hc => by rcases lt_s2 hj with h9 | h9; (subst h9; first | exact hnw | exact absurd hc c51); exact hno j h9 hc) (by omega) ls (by rw [eB]; exact lv_sub hl [4, 5, 6, 7, 8, 2, 1, 0] rfl)
          · skip
            have c67 := if01_n er64 c67
            have hyw := hisw.mp c67
            refine W.widen (k := capAt (cap 0) (M ++ (F ++ wntL T M F r0 b0)).length - cap 0) (n := 50 * (capAt (cap 0) (M ++ (F ++ wntL T M F r0 b0)).length - cap 0)) (Nat.zero_le _) (Nat.zero_le _) ?_
            refine W.vret hx hb hr (fun t ht hW => ⟨⟨(ad, cap, I, J), rfl, ?_, by rw [ht]; exact hP, by show va_D (va_A (Wd y ad cap I J) s.heap.size) _; rw [hAe]; exact hD⟩, hS.F ht⟩) hS.2.2 dX4_wantThunk_70
            have hL : wntL T M F r0 b0 = [] := by unfold wntL; rw [if_pos (anyW_yes (by omega) c51 hyw)]
            rw [hL, List.append_nil]
            have hca : capAt (cap 0) (M ++ F).length = cap 0 := by unfold capAt; rw [if_pos hTH.1.2.2.1]
            exact ⟨cap, I, J, rfl, hca.symm, hTH, EqX.rf, EqJ.rf, fun _ _ => rfl, hU⟩
        · skip
          have c51 := if01_z er48 c51
          have eB := wst_no c51
          refine lv_goto (tgt := 111) hx hb dX4_wantThunk_54 (by decide) ?_
          refine lv_iinc (v := (nI (k + 1))) (lv' := [(9, .int (nI (k + 1))), (0, .ref (ad 17)), (1, .int (nI b0)), (2, .int (nI r0)), (3, .int (nI (T 9 b0))), (4, .long (lN (braA T (cnt M) b0))), (6, .int (oI (wst T M b0 k))), (7, .long x7)]) hx hb dX4_wantThunk_111 hl (k := 7) rfl (nI_1 _) (by decide) rfl (fun ls hl => ?_)
          refine lv_goto (tgt := 29) hx hb dX4_wantThunk_114 (by decide) ?_
          exact ih29 (k + 1) x7 (by omega) (fun v hv => by rw [eB] at hv; first | exact h7 v hv | (cases hv; rfl) | (rw [hu] at hv; cases hv; rfl)) (fun j hj hc => by rcases lt_s2 hj with h9 | h9; (subst h9; first | exact hnw | exact absurd hc c51); exact hno j h9 hc) (by omega) ls (by rw [eB]; exact lv_sub hl [1, 2, 3, 4, 5, 6, 7, 0] rfl)
  exact loop29 (T 0 0 + 1) 0 0 (by omega) (fun u hu => by simp [wst, amin] at hu) (fun j hj => absurd hj (by omega)) (by omega) ls (by show lv_has ls _ [(0, .ref (ad 17)), (1, .int (nI b0)), (2, .int (nI r0)), (3, .int (nI (T 9 b0))), (4, .long (lN (braA T (cnt M) b0))), (6, .int (-1)), (7, .long 0), (9, .int 0)]; exact lv_sub hl [5, 6, 7, 4, 3, 2, 1, 0] rfl)
