/-- the routes of the first k branches -/
def RV (T : Nat → Nat → Nat) (M : List Th) (I : Nat → Nat → Int32) (k : Nat) : Prop := (∀ b, b < k → I 48 b = nI (wyB T M b) ∧ I 49 b = oI (rtB T M b)) ∧ (I 17 6 = nI (wc T M 0 k) ∧ I 17 7 = nI (wc T M 1 k) ∧ I 17 8 = nI (wc T M 2 k)) ∧ ∀ t, t < M.length → I 43 t = nI (us T M t k)
theorem wy_dir {T : Nat → Nat → Nat} {M : List Th} {b : Nat} (h : dirB T (cnt M) b = true) : wyB T M b = 0 ∧ rtB T M b = none := by
  unfold wyB rtB
  rw [if_pos h, if_pos h]
  exact ⟨rfl, rfl⟩
theorem wy_ref {T : Nat → Nat → Nat} {M : List Th} {b : Nat} (h : ¬ dirB T (cnt M) b = true) (h2 : bst T M b (T 0 0) = none) : wyB T M b = 2 ∧ rtB T M b = none := by
  unfold wyB rtB
  rw [if_neg h, if_neg h, h2]
  exact ⟨rfl, rfl⟩
theorem wy_thk {T : Nat → Nat → Nat} {M : List Th} {b t : Nat} (h : ¬ dirB T (cnt M) b = true) (h2 : bst T M b (T 0 0) = some t) : wyB T M b = 1 ∧ rtB T M b = some t := by
  unfold wyB rtB
  rw [if_neg h, if_neg h, h2]
  exact ⟨rfl, rfl⟩
theorem RV_ref {T : Nat → Nat → Nat} {M : List Th} {I I1 I2 I3 : Nat → Nat → Int32} {k : Nat} (h : RV T M I k) (hw : wyB T M k = 2) (hr : rtB T M k = none) (e1 : va_up I 49 (upd (I 49) k (-1)) = I1) (e2 : va_up I1 48 (upd (I1 48) k 2) = I2) (e3 : va_up I2 17 (upd (I2 17) 8 (nI (wc T M 2 k + 1))) = I3) : RV T M I3 (k + 1) ∧ EqX [17, 43, 48, 49] I I3 ∧ I3 17 5 = I 17 5 := by
  obtain ⟨hb, ⟨h1, h2, h3⟩, hu⟩ := h
  subst e1 e2 e3
  refine ⟨⟨fun b hb2 => ?_, ⟨?_, ?_, ?_⟩, fun t ht => ?_⟩, ?_, ?_⟩
  · rcases lt_s2 hb2 with rfl | h9
    · rw [hw, hr]
      simp [va_up, upd, oI]
      rfl
    · have hne : b ≠ k := by omega
      simpa [va_up, upd, hne] using hb b h9
  · simpa [va_up, upd, wc, hw] using h1
  · simpa [va_up, upd, wc, hw] using h2
  · simp [va_up, upd, wc, hw]
  · simpa [va_up, upd, us, hr] using hu t ht
  · refine EqX.up (EqX.up (EqX.up EqX.rf ?_) ?_) ?_ <;> decide
  · simp [va_up, upd]
theorem RV_dir {T : Nat → Nat → Nat} {M : List Th} {I I1 I2 I3 : Nat → Nat → Int32} {k : Nat} (h : RV T M I k) (hw : wyB T M k = 0) (hr : rtB T M k = none) (e1 : va_up I 49 (upd (I 49) k (-1)) = I1) (e2 : va_up I1 48 (upd (I1 48) k 0) = I2) (e3 : va_up I2 17 (upd (I2 17) 6 (nI (wc T M 0 k + 1))) = I3) : RV T M I3 (k + 1) ∧ EqX [17, 43, 48, 49] I I3 ∧ I3 17 5 = I 17 5 := by
  obtain ⟨hb, ⟨h1, h2, h3⟩, hu⟩ := h
  subst e1 e2 e3
  refine ⟨⟨fun b hb2 => ?_, ⟨?_, ?_, ?_⟩, fun t ht => ?_⟩, ?_, ?_⟩
  · rcases lt_s2 hb2 with rfl | h9
    · rw [hw, hr]
      simp [va_up, upd, oI]
      rfl
    · have hne : b ≠ k := by omega
      simpa [va_up, upd, hne] using hb b h9
  · simp [va_up, upd, wc, hw]
  · simpa [va_up, upd, wc, hw] using h2
  · simpa [va_up, upd, wc, hw] using h3
  · simpa [va_up, upd, us, hr] using hu t ht
  · refine EqX.up (EqX.up (EqX.up EqX.rf ?_) ?_) ?_ <;> decide
  · simp [va_up, upd]
theorem RV_thk {T : Nat → Nat → Nat} {M : List Th} {I I1 I2 I3 I4 : Nat → Nat → Int32} {k t0 : Nat} (h : RV T M I k) (hw : wyB T M k = 1) (hr : rtB T M k = some t0) (e1 : va_up I 49 (upd (I 49) k (nI t0)) = I1) (e2 : va_up I1 48 (upd (I1 48) k 1) = I2) (e3 : va_up I2 17 (upd (I2 17) 7 (nI (wc T M 1 k + 1))) = I3) (e4 : va_up I3 43 (upd (I3 43) t0 (nI (us T M t0 k + 1))) = I4) : RV T M I4 (k + 1) ∧ EqX [17, 43, 48, 49] I I4 ∧ I4 17 5 = I 17 5 := by
  obtain ⟨hb, ⟨h1, h2, h3⟩, hu⟩ := h
  subst e1 e2 e3 e4
  refine ⟨⟨fun b hb2 => ?_, ⟨?_, ?_, ?_⟩, fun t ht => ?_⟩, ?_, ?_⟩
  · rcases lt_s2 hb2 with rfl | h9
    · rw [hw, hr]
      simp [va_up, upd, oI]
      rfl
    · have hne : b ≠ k := by omega
      simpa [va_up, upd, hne] using hb b h9
  · simpa [va_up, upd, wc, hw] using h1
  · simp [va_up, upd, wc, hw]
  · simpa [va_up, upd, wc, hw] using h3
  · by_cases hne : t = t0
    · subst hne
      simp [va_up, upd, us, hr]
    · have hne2 : ¬ t0 = t := fun h9 => hne h9.symm
      simpa [va_up, upd, us, hr, hne, hne2] using hu t ht
  · refine EqX.up (EqX.up (EqX.up (EqX.up EqX.rf ?_) ?_) ?_) ?_ <;> decide
  · simp [va_up, upd]
theorem oI_has {M : List Th} {o : Option Nat} (hlt : ∀ t, o = some t → t < M.length) (hM : M.length < 2 ^ 31) : (¬ oI o < 0 ∧ ¬ nI M.length ≤ oI o) ↔ ∃ t, o = some t := by
  cases o with
  | none =>
    constructor
    · intro h
      exact absurd (show (-1 : Int32) < 0 by decide) h.1
    · rintro ⟨t, h⟩
      cases h
  | some t =>
    have := hlt t rfl
    constructor
    · intro _
      exact ⟨t, rfl⟩
    · intro _
      exact ⟨nI_pos (by omega), by simp only [oI]; rw [nI_leI (by omega) (by omega)]; omega⟩
theorem us_le2 {T : Nat → Nat → Nat} {M : List Th} {t b n : Nat} (h : b ≤ n) : us T M t b ≤ n := Nat.le_trans (us_le T M t b) h
theorem wc_le (T : Nat → Nat → Nat) (M : List Th) (v : Nat) : ∀ b, wc T M v b ≤ b := by
  intro b
  induction b with
  | zero => simp [wc]
  | succ b ih =>
    simp only [wc]
    split <;> omega
set_option maxHeartbeats 4000000 in
set_option maxRecDepth 100000 in
theorem c_X4_routeByThunk (l : Launch) (D : va_G) (y : Nat → ClassId) (ad : Nat → Nat) (cap : Nat → Nat) (I : Nat → Nat → Int32) (J : Nat → Nat → Int64) (sz : Nat) {T : Nat → Nat → Nat} {M : List Th} (hT : RT18 I T) (hW : WF T) (hTWM : TW T M) (hJ : ∀ s, s < T 0 0 → J 35 s = lN (sA T (cnt M) s) ∧ J 36 s = lN (pS T (cnt M) s) ∧ J 37 s = lN (pE T (cnt M) s)) (hTH : TH I J T (cap 0) M []) (hPL : PL J T M) (htz0 : 0 < M.length → 0 < T 0 5) {b0 : Nat} (hb0 : b0 < T 0 2) (hnd : ¬ dirB T (cnt M) b0 = true) (hRV : RV T M I b0) : Met l yX4_routeByThunk [.code yX4_routeByThunk cX4_routeByThunk 3 none] ({ frames := 4, cells := 0, slots := 0, locals := 107 }) (va_Pc [.ref (ad 17), .int (nI b0)] (PW D y (Wd y ad cap I J) sz)) (va_Qv (fun u : St4 => ∃ I', u = (ad, cap, I', J) ∧ EqX [17, 43, 48, 49] I I' ∧ I' 17 5 = I 17 5 ∧ RV T M I' (b0 + 1)) (Aft D (Wt y) (Wd y ad cap I J) sz) (va_A (Wd y ad cap I J) sz)) 0 0 (va_A (Wd y ad cap I J) sz) := by
  refine Met.ofW (cc := cX4_routeByThunk) (maxL := 3) (ret := none) (by decide) rfl ?_
  intro p e s m args below meth c s₁ B hml hv
  obtain ⟨rfl, rfl, hP, hD0, hO⟩ := hv
  have hx := B.exec
  have hb := B.bytes
  have hr := B.returns
  have hown : s.vm.findClass RX4 = some m.cls := findClass_of_methodNamed B.named
  have hlocks := B.notSynchronized
  have hK := hO.1
  have hts : ∀ w ∈ lw_E, w.before ([.ref (ad 17), .int (nI b0)] : List Value).toArray s = true := fun w h => hO.2 w h _
  clear B
  have hD := hD0.self (sz := s.heap.size)
  generalize hAe : va_A (Wd y ad cap I J) s.heap.size = A at hD ⊢
  have hA : ∀ q : Nat, s.heap.size ≤ q → A q := fun q h => by rw [← hAe]; exact Or.inr h
  have hS : va_S A s.heap s.heap [] := va_S.rf
  have hl := lv_entry ([.ref (ad 17), .int (nI b0)]) (n := 3) (Nat.le_of_ble_eq_true rfl)
  rw [lg_entry_eq]
  generalize (lg_sl ([.ref (ad 17), .int (nI b0)]) ++ List.replicate (3 - (lg_sl ([.ref (ad 17), .int (nI b0)])).length) Slot.unset).toArray = ls at hl ⊢
  have hl : lv_has ls 3 [(0, .ref (ad 17)), (1, .int (nI b0))] := hl
  have hW0 := hW
  obtain ⟨⟨w1, w2, w3, w4, w5, w6, w7⟩, wS, wL, wB, wK, wTk, wT0⟩ := hW
  have hMlen : M.length ≤ 2400 := TW_len hW0 hTWM
  have hnM : ∀ s, cnt M s ≤ 2400 := fun s => Nat.le_trans (cnt_le M s) hMlen
  have hcap := hTH.1.2.2.1
  have hcap2 := hTH.1.2.2.2
  rw [List.append_nil] at hcap
  have hq38 : I 38 0 = nI M.length := hTH.1.1
  have hwc := wc_le T M 2 b0
  have hwc1 := wc_le T M 1 b0
  refine lv_aload_n hx hb dX4_routeByThunk_0 rfl (lv_at hl 0 rfl) ?_
  refine lv_iload_n hx hb dX4_routeByThunk_1 rfl (lv_at hl 1 rfl) ?_
  refine rk_i (run_v (As := [.int (nI b0)]) (rest := []) (b := (ad 17)) hx hb hml hown hO.2 (c_X4_nearestThunk l D y ad cap I J hT hW0 (M := M) (F := []) (by simpa using hMlen) (by simpa using hTWM) hJ hTH hPL htz0 (b0 := b0) hb0) k_X4_nearestThunk ml_X4_97 ⟨rfl, rfl⟩ ⟨Nat.le_of_ble_eq_true rfl, Nat.le_of_ble_eq_true rfl⟩ (pre_VR hO hP (wd_17 y ad cap I J) rfl) rfl hl.1 rfl (Nat.le_of_ble_eq_true rfl) dX4_routeByThunk_2 ⟨(Nat.zero_le _), (Nat.zero_le _)⟩) (fun r2 er2 => ?_)
  try dsimp only at er2
  obtain rfl : r2 = (oI (bst T M b0 (T 0 0))) := by
    exact er2
  refine lv_istore_n (lv' := [(2, .int (oI (bst T M b0 (T 0 0)))), (0, .ref (ad 17)), (1, .int (nI b0))]) hx hb dX4_routeByThunk_5 rfl hl (by decide) rfl (fun ls hl => ?_)
  refine lv_aload_n hx hb dX4_routeByThunk_6 rfl (lv_at hl 1 rfl) ?_
  refine va_get (D := D) (T := TX4) (N := 9) hx hb hts jnX4 hown hK hP 17 (wd_17 y ad cap I J) rfl 4 (by decide) (hts _ fl_X4_36) (fun _ h9 => h9) rfl dX4_routeByThunk_7 ?_
  refine lv_iload_n hx hb dX4_routeByThunk_10 rfl (lv_at hl 2 rfl) ?_
  refine lv_iload_n hx hb dX4_routeByThunk_11 rfl (lv_at hl 0 rfl) ?_
  refine va_iast (D := D) hx hb hK hP hD hS 49 0 (wd_49 y ad cap I J) rfl (vp_in_nI (by omega) (by omega)) dX4_routeByThunk_12 (fun H locs hP hD hS => ?_)
  rw [nI_clamp (n := b0) (by omega)] at hP hD
  rw [ws_49] at hP hD
  generalize eI12 : va_up I 49 (upd (I 49) b0 (oI (bst T M b0 (T 0 0)))) = I12 at hP hD
  refine lv_aload_n hx hb dX4_routeByThunk_13 rfl (lv_at hl 1 rfl) ?_
  refine va_get (D := D) (T := TX4) (N := 9) hx hb hts jnX4 hown hK hP 17 (wd_17 y ad cap I12 J) rfl 2 (by decide) (hts _ fl_X4_28) (fun _ h9 => h9) rfl dX4_routeByThunk_14 ?_
  refine lv_iload_n hx hb dX4_routeByThunk_17 rfl (lv_at hl 0 rfl) ?_
  refine rk_i (run_vn (As := [.int (oI (bst T M b0 (T 0 0)))]) (rest := []) (b := (ad 38)) hx hb hml hown hO.2 (c_X6_has l D y (wd_38 y ad cap I12 J) (oI (bst T M b0 (T 0 0)))) k_X6_has mn_X4_173 ⟨rfl, rfl⟩ ⟨Nat.le_of_ble_eq_true rfl, Nat.le_of_ble_eq_true rfl⟩ (pre_VR hO hP (wd_38 y ad cap I12 J) rfl) rfl hl.1 rfl (Nat.le_of_ble_eq_true rfl) dX4_routeByThunk_18 ⟨(Nat.zero_le _), (Nat.zero_le _)⟩) (fun r18 er18 => ?_)
  try dsimp only at er18
  rw [show I12 38 0 = nI M.length from by rw [← eI12]; simpa [va_up] using hq38] at er18
  refine lv_if_ne (tgt := 42) hx hb dX4_routeByThunk_21 (by decide) (fun c21 => ?_) (fun c21 => ?_)
  · skip
    have c21 := if01_n er18 c21
    obtain ⟨t0, hbt⟩ := (oI_has (fun t ht => bst_lt _ _ ht) (by omega)).mp c21
    obtain ⟨hwy, hrt⟩ := wy_thk hnd hbt
    have ht0 := bst_lt _ _ hbt
    rw [hbt] at eI12 hl
    simp only [oI] at eI12 hl
    have hus := us_le2 (T := T) (M := M) (t := t0) (show b0 ≤ 200 by omega)
    refine lv_aload_n hx hb dX4_routeByThunk_42 rfl (lv_at hl 1 rfl) ?_
    refine va_get (D := D) (T := TX4) (N := 9) hx hb hts jnX4 hown hK hP 17 (wd_17 y ad cap I12 J) rfl 3 (by decide) (hts _ fl_X4_32) (fun _ h9 => h9) rfl dX4_routeByThunk_43 ?_
    refine lv_iload_n hx hb dX4_routeByThunk_46 rfl (lv_at hl 2 rfl) ?_
    refine lv_iconst (v := 1) hx hb dX4_routeByThunk_47 (by decide) ?_
    refine va_iast (D := D) hx hb hK hP hD hS 48 0 (wd_48 y ad cap I12 J) rfl (vp_in_nI (by omega) (by omega)) dX4_routeByThunk_48 (fun H locs hP hD hS => ?_)
    rw [nI_clamp (n := b0) (by omega)] at hP hD
    rw [ws_48] at hP hD
    generalize eI48 : va_up I12 48 (upd (I12 48) b0 1) = I48 at hP hD
    refine lv_aload_n hx hb dX4_routeByThunk_49 rfl (lv_at hl 1 rfl) ?_
    refine lv_dup hx hb dX4_routeByThunk_50 rfl ?_
    refine va_get (D := D) (T := TX4) (N := 9) hx hb hts jnX4 hown hK hP 17 (wd_17 y ad cap I48 J) rfl 7 (by decide) (hts _ fl_X4_46) (fun _ h9 => h9) rfl dX4_routeByThunk_51 ?_
    refine lv_topi (fun v51 ev51 => ?_)
    obtain rfl : v51 = (nI (wc T M 1 b0)) := by
      rw [ev51, ← eI48, ← eI12]; simpa [va_up] using hRV.2.1.2.1
    refine lv_iconst (v := 1) hx hb dX4_routeByThunk_54 (by decide) ?_
    refine lv_iadd hx hb dX4_routeByThunk_55 ?_
    refine lv_topi (fun v55 ev55 => ?_)
    obtain rfl : v55 = (nI ((wc T M 1 b0) + 1)) := by rw [ev55, show (1 : Int32) = nI 1 from rfl, nI_add]
    refine va_put (D := D) (T := TX4) (N := 9) (v := .int (nI ((wc T M 1 b0) + 1))) (ty := .int) hx hb hts jnX4 tyX4 tyX4_ok nmX4 hown hK hP hD hS 17 (wd_17 y ad cap I48 J) rfl 7 (by decide) (hts _ fl_X4_46) (fun _ h9 => h9) rfl (by decide +kernel) rfl rfl (Nat.le_of_ble_eq_true rfl) dX4_routeByThunk_56 (fun H locs hP hD hS => ?_)
    rw [wp_17_7] at hP hD
    generalize eI56 : va_up I48 17 (upd (I48 17) 7 (nI ((wc T M 1 b0) + 1))) = I56 at hP hD
    refine lv_aload_n hx hb dX4_routeByThunk_59 rfl (lv_at hl 1 rfl) ?_
    refine va_get (D := D) (T := TX4) (N := 9) hx hb hts jnX4 hown hK hP 17 (wd_17 y ad cap I56 J) rfl 2 (by decide) (hts _ fl_X4_28) (fun _ h9 => h9) rfl dX4_routeByThunk_60 ?_
    refine va_getN (D := D) (T := TX6) (N := 11) hx hb hts jnX6 hown hK hP 38 (wd_38 y ad cap I56 J) rfl 6 (by decide) (hts _ fn_X4_187) (fun _ h9 => h9) rfl dX4_routeByThunk_63 ?_
    refine lv_iload_n hx hb dX4_routeByThunk_66 rfl (lv_at hl 0 rfl) ?_
    refine lv_dup2_11 hx hb dX4_routeByThunk_67 rfl rfl ?_
    refine va_iald (D := D) hx hb hK hP 43 0 (wd_43 y ad cap I56 J) rfl (vp_in_nI (by omega) (by omega)) dX4_routeByThunk_68 ?_
    rw [nI_clamp (n := t0) (by omega)]
    refine lv_topi (fun v68 ev68 => ?_)
    obtain rfl : v68 = (nI (us T M t0 b0)) := by
      rw [ev68, ← eI56, ← eI48, ← eI12]; simpa [va_up] using hRV.2.2 t0 ht0
    refine lv_iconst (v := 1) hx hb dX4_routeByThunk_69 (by decide) ?_
    refine lv_iadd hx hb dX4_routeByThunk_70 ?_
    refine lv_topi (fun v70 ev70 => ?_)
    obtain rfl : v70 = (nI ((us T M t0 b0) + 1)) := by rw [ev70, show (1 : Int32) = nI 1 from rfl, nI_add]
    refine va_iast (D := D) hx hb hK hP hD hS 43 0 (wd_43 y ad cap I56 J) rfl (vp_in_nI (by omega) (by omega)) dX4_routeByThunk_71 (fun H locs hP hD hS => ?_)
    rw [nI_clamp (n := t0) (by omega)] at hP hD
    rw [ws_43] at hP hD
    generalize eI71 : va_up I56 43 (upd (I56 43) t0 (nI ((us T M t0 b0) + 1))) = I71 at hP hD
    refine W.vret hx hb hr (fun t ht hW => ⟨⟨(ad, cap, I71, J), rfl, ?_, by rw [ht]; exact hP, by show va_D (va_A (Wd y ad cap I J) s.heap.size) _; rw [hAe]; exact hD⟩, hS.F ht⟩) hS.2.2 dX4_routeByThunk_72
    obtain ⟨g1, g2, g3⟩ := RV_thk hRV hwy hrt eI12 eI48 eI56 eI71
    exact ⟨I71, rfl, g2, g3, g1⟩
  · skip
    have c21 := if01_z er18 c21
    have hbn : bst T M b0 (T 0 0) = none := by
      cases h9 : bst T M b0 (T 0 0) with
      | none => rfl
      | some t => exact absurd ((oI_has (fun t ht => bst_lt _ _ ht) (by omega)).mpr ⟨t, h9⟩) c21
    obtain ⟨hwy, hrt⟩ := wy_ref hnd hbn
    rw [hbn] at eI12
    simp only [oI] at eI12
    refine lv_aload_n hx hb dX4_routeByThunk_24 rfl (lv_at hl 1 rfl) ?_
    refine va_get (D := D) (T := TX4) (N := 9) hx hb hts jnX4 hown hK hP 17 (wd_17 y ad cap I12 J) rfl 3 (by decide) (hts _ fl_X4_32) (fun _ h9 => h9) rfl dX4_routeByThunk_25 ?_
    refine lv_iload_n hx hb dX4_routeByThunk_28 rfl (lv_at hl 2 rfl) ?_
    refine lv_iconst (v := 2) hx hb dX4_routeByThunk_29 (by decide) ?_
    refine va_iast (D := D) hx hb hK hP hD hS 48 0 (wd_48 y ad cap I12 J) rfl (vp_in_nI (by omega) (by omega)) dX4_routeByThunk_30 (fun H locs hP hD hS => ?_)
    rw [nI_clamp (n := b0) (by omega)] at hP hD
    rw [ws_48] at hP hD
    generalize eI30 : va_up I12 48 (upd (I12 48) b0 2) = I30 at hP hD
    refine lv_aload_n hx hb dX4_routeByThunk_31 rfl (lv_at hl 1 rfl) ?_
    refine lv_dup hx hb dX4_routeByThunk_32 rfl ?_
    refine va_get (D := D) (T := TX4) (N := 9) hx hb hts jnX4 hown hK hP 17 (wd_17 y ad cap I30 J) rfl 8 (by decide) (hts _ fl_X4_49) (fun _ h9 => h9) rfl dX4_routeByThunk_33 ?_
    refine lv_topi (fun v33 ev33 => ?_)
    obtain rfl : v33 = (nI (wc T M 2 b0)) := by
      rw [ev33, ← eI30, ← eI12]; simpa [va_up] using hRV.2.1.2.2
    refine lv_iconst (v := 1) hx hb dX4_routeByThunk_36 (by decide) ?_
    refine lv_iadd hx hb dX4_routeByThunk_37 ?_
    refine lv_topi (fun v37 ev37 => ?_)
    obtain rfl : v37 = (nI ((wc T M 2 b0) + 1)) := by rw [ev37, show (1 : Int32) = nI 1 from rfl, nI_add]
    refine va_put (D := D) (T := TX4) (N := 9) (v := .int (nI ((wc T M 2 b0) + 1))) (ty := .int) hx hb hts jnX4 tyX4 tyX4_ok nmX4 hown hK hP hD hS 17 (wd_17 y ad cap I30 J) rfl 8 (by decide) (hts _ fl_X4_49) (fun _ h9 => h9) rfl (by decide +kernel) rfl rfl (Nat.le_of_ble_eq_true rfl) dX4_routeByThunk_38 (fun H locs hP hD hS => ?_)
    rw [wp_17_8] at hP hD
    generalize eI38 : va_up I30 17 (upd (I30 17) 8 (nI ((wc T M 2 b0) + 1))) = I38 at hP hD
    refine W.vret hx hb hr (fun t ht hW => ⟨⟨(ad, cap, I38, J), rfl, ?_, by rw [ht]; exact hP, by show va_D (va_A (Wd y ad cap I J) s.heap.size) _; rw [hAe]; exact hD⟩, hS.F ht⟩) hS.2.2 dX4_routeByThunk_41
    obtain ⟨g1, g2, g3⟩ := RV_ref hRV hwy hrt eI12 eI30 eI38
    exact ⟨I38, rfl, g2, g3, g1⟩
set_option maxHeartbeats 4000000 in
set_option maxRecDepth 100000 in
theorem c_X4_routeAll (l : Launch) (D : va_G) (y : Nat → ClassId) (ad : Nat → Nat) (cap : Nat → Nat) (I : Nat → Nat → Int32) (J : Nat → Nat → Int64) (sz : Nat) {T : Nat → Nat → Nat} {M : List Th} (hT : RT18 I T) (hW : WF T) (hTWM : TW T M) (hJ : ∀ s, s < T 0 0 → J 35 s = lN (sA T (cnt M) s) ∧ J 36 s = lN (pS T (cnt M) s) ∧ J 37 s = lN (pE T (cnt M) s)) (hTH : TH I J T (cap 0) M []) (hPL : PL J T M) (htz0 : 0 < M.length → 0 < T 0 5) (hU : ∀ t, t < M.length → I 43 t = 0) : Met l yX4_routeAll [.code yX4_routeAll cX4_routeAll 2 none] ({ frames := 5, cells := 0, slots := 0, locals := 129 }) (va_Pc [.ref (ad 17)] (PW D y (Wd y ad cap I J) sz)) (va_Qv (fun u : St4 => ∃ I', u = (ad, cap, I', J) ∧ EqX [17, 43, 48, 49] I I' ∧ I' 17 5 = I 17 5 ∧ RV T M I' (T 0 2)) (Aft D (Wt y) (Wd y ad cap I J) sz) (va_A (Wd y ad cap I J) sz)) 0 0 (va_A (Wd y ad cap I J) sz) := by
  refine Met.ofW (cc := cX4_routeAll) (maxL := 2) (ret := none) (by decide) rfl ?_
  intro p e s m args below meth c s₁ B hml hv
  obtain ⟨rfl, rfl, hP, hD0, hO⟩ := hv
  have hx := B.exec
  have hb := B.bytes
  have hr := B.returns
  have hown : s.vm.findClass RX4 = some m.cls := findClass_of_methodNamed B.named
  have hlocks := B.notSynchronized
  have hK := hO.1
  have hts : ∀ w ∈ lw_E, w.before ([.ref (ad 17)] : List Value).toArray s = true := fun w h => hO.2 w h _
  clear B
  have hD := hD0.self (sz := s.heap.size)
  generalize hAe : va_A (Wd y ad cap I J) s.heap.size = A at hD ⊢
  have hA : ∀ q : Nat, s.heap.size ≤ q → A q := fun q h => by rw [← hAe]; exact Or.inr h
  have hS : va_S A s.heap s.heap [] := va_S.rf
  have hl := lv_entry ([.ref (ad 17)]) (n := 2) (Nat.le_of_ble_eq_true rfl)
  rw [lg_entry_eq]
  generalize (lg_sl ([.ref (ad 17)]) ++ List.replicate (2 - (lg_sl ([.ref (ad 17)])).length) Slot.unset).toArray = ls at hl ⊢
  have hl : lv_has ls 2 [(0, .ref (ad 17))] := hl
  have hW0 := hW
  obtain ⟨⟨w1, w2, w3, w4, w5, w6, w7⟩, wS, wL, wB, wK, wTk, wT0⟩ := hW
  have hMlen : M.length ≤ 2400 := TW_len hW0 hTWM
  have hnM : ∀ s, cnt M s ≤ 2400 := fun s => Nat.le_trans (cnt_le M s) hMlen
  have hcap := hTH.1.2.2.1
  have hcap2 := hTH.1.2.2.2
  rw [List.append_nil] at hcap
  have hq38 : I 38 0 = nI M.length := hTH.1.1
  refine lv_aload_n hx hb dX4_routeAll_0 rfl (lv_at hl 0 rfl) ?_
  refine lv_iconst (v := 0) hx hb dX4_routeAll_1 (by decide) ?_
  refine va_put (D := D) (T := TX4) (N := 9) (v := .int 0) (ty := .int) hx hb hts jnX4 tyX4 tyX4_ok nmX4 hown hK hP hD hS 17 (wd_17 y ad cap I J) rfl 6 (by decide) (hts _ fl_X4_43) (fun _ h9 => h9) rfl (by decide +kernel) rfl rfl (Nat.le_of_ble_eq_true rfl) dX4_routeAll_2 (fun H locs hP hD hS => ?_)
  rw [wp_17_6] at hP hD
  generalize eI2 : va_up I 17 (upd (I 17) 6 0) = I2 at hP hD
  refine lv_aload_n hx hb dX4_routeAll_5 rfl (lv_at hl 0 rfl) ?_
  refine lv_iconst (v := 0) hx hb dX4_routeAll_6 (by decide) ?_
  refine va_put (D := D) (T := TX4) (N := 9) (v := .int 0) (ty := .int) hx hb hts jnX4 tyX4 tyX4_ok nmX4 hown hK hP hD hS 17 (wd_17 y ad cap I2 J) rfl 7 (by decide) (hts _ fl_X4_46) (fun _ h9 => h9) rfl (by decide +kernel) rfl rfl (Nat.le_of_ble_eq_true rfl) dX4_routeAll_7 (fun H locs hP hD hS => ?_)
  rw [wp_17_7] at hP hD
  generalize eI7 : va_up I2 17 (upd (I2 17) 7 0) = I7 at hP hD
  refine lv_aload_n hx hb dX4_routeAll_10 rfl (lv_at hl 0 rfl) ?_
  refine lv_iconst (v := 0) hx hb dX4_routeAll_11 (by decide) ?_
  refine va_put (D := D) (T := TX4) (N := 9) (v := .int 0) (ty := .int) hx hb hts jnX4 tyX4 tyX4_ok nmX4 hown hK hP hD hS 17 (wd_17 y ad cap I7 J) rfl 8 (by decide) (hts _ fl_X4_49) (fun _ h9 => h9) rfl (by decide +kernel) rfl rfl (Nat.le_of_ble_eq_true rfl) dX4_routeAll_12 (fun H locs hP hD hS => ?_)
  rw [wp_17_8] at hP hD
  generalize eI12 : va_up I7 17 (upd (I7 17) 8 0) = I12 at hP hD
  refine lv_iconst (v := 0) hx hb dX4_routeAll_15 (by decide) ?_
  rw [show (0 : Int32) = (nI 0) from rfl]
  refine lv_istore_n (lv' := [(1, .int (nI 0)), (0, .ref (ad 17))]) hx hb dX4_routeAll_16 rfl hl (by decide) rfl (fun ls hl => ?_)
  have loop17 : ∀ (n17 : Nat) (k : Nat) (I9 : Nat → Nat → Int32) , (k ≤ T 0 2) → (RV T M I9 k) → (EqX [17, 43, 48, 49] I I9) → (I9 17 5 = I 17 5) → T 0 2 + 1 ≤ k + n17 → ∀ (H : Heap) (locs : List Loc), va_P D vwCl (Wd y ad cap I9 J) H → va_D A (Wd y ad cap I9 J) → va_S A s.heap H locs → ∀ ls : Array Slot, lv_has ls 2 [(0, .ref (ad 17)), (1, .int (nI k))] → W p l e (headSpec [.code yX4_routeAll cX4_routeAll 2 none] ({ frames := 5, cells := 0, slots := 0, locals := 129 })).room s m ([.ref (ad 17)] : List Value).toArray below meth c H locs 0 0 (MQ below (va_Qv (fun u : St4 => ∃ I', u = (ad, cap, I', J) ∧ EqX [17, 43, 48, 49] I I' ∧ I' 17 5 = I 17 5 ∧ RV T M I' (T 0 2)) (Aft D (Wt y) (Wd y ad cap I J) s.heap.size) A) ([.ref (ad 17)] : List Value).toArray s 0 0 A) (F0 m 17 ls []) := by
    intro n17
    induction n17 with
    | zero =>
      intro k I9 hk hRV hE9 h95 hmeas
      exact absurd hmeas (by omega)
    | succ n17 ih17 =>
      intro k I9 hk hRV hE9 h95 hmeas H locs hP hD hS ls hl
      have hT9 : RT18 I9 T := RT18_eqx hT (fun j h1 h2 => hE9 j (by simp; omega))
      refine lv_iload_n hx hb dX4_routeAll_17 rfl (lv_at hl 1 rfl) ?_
      refine lv_aload_n hx hb dX4_routeAll_18 rfl (lv_at hl 0 rfl) ?_
      refine va_get (D := D) (T := TX4) (N := 9) hx hb hts jnX4 hown hK hP 17 (wd_17 y ad cap I9 J) rfl 0 (by decide) (hts _ fl_X4_12) (fun _ h9 => h9) rfl dX4_routeAll_19 ?_
      refine va_getN (D := D) (T := TX7) (N := 8) hx hb hts jnX7 hown hK hP 18 (wd_18 y ad cap I9 J) rfl 3 (by decide) (hts _ fn_X4_85) (fun _ h9 => h9) rfl dX4_routeAll_22 ?_
      refine va_getN (D := D) (T := TX1) (N := 5) hx hb hts jnX1 hown hK hP 29 (wd_29 y ad cap I9 J) rfl 0 (by decide) (hts _ fn_X4_89) (fun _ h9 => h9) rfl dX4_routeAll_25 ?_
      refine lv_topi (fun v25 ev25 => ?_)
      obtain rfl : v25 = (nI (T 0 2)) := by
        rw [ev25]; exact hT9.1.2.2.1
      refine lv_icmp_ge (tgt := 77) hx hb dX4_routeAll_28 (by decide) (fun c28 => ?_) (fun c28 => ?_)
      · skip
        have c28 := (nI_leI (a := (T 0 2)) (b := k) (by omega) (by omega)).mp c28
        refine W.vret hx hb hr (fun t ht hW => ⟨⟨(ad, cap, I9, J), rfl, ?_, by rw [ht]; exact hP, by show va_D (va_A (Wd y ad cap I J) s.heap.size) _; rw [hAe]; exact hD⟩, hS.F ht⟩) hS.2.2 dX4_routeAll_77
        have hk9 : k = T 0 2 := by omega
        rw [hk9] at hRV
        exact ⟨I9, rfl, hE9, h95, hRV⟩
      · skip
        have c28 := mt (nI_leI (a := (T 0 2)) (b := k) (by omega) (by omega)).mpr c28
        refine lv_aload_n hx hb dX4_routeAll_31 rfl (lv_at hl 0 rfl) ?_
        refine va_get (D := D) (T := TX4) (N := 9) hx hb hts jnX4 hown hK hP 17 (wd_17 y ad cap I9 J) rfl 4 (by decide) (hts _ fl_X4_36) (fun _ h9 => h9) rfl dX4_routeAll_32 ?_
        refine lv_iload_n hx hb dX4_routeAll_35 rfl (lv_at hl 1 rfl) ?_
        refine lv_iconst (v := (-1)) hx hb dX4_routeAll_36 (by decide) ?_
        refine va_iast (D := D) hx hb hK hP hD hS 49 0 (wd_49 y ad cap I9 J) rfl (vp_in_nI (by omega) (by omega)) dX4_routeAll_37 (fun H locs hP hD hS => ?_)
        rw [nI_clamp (n := k) (by omega)] at hP hD
        rw [ws_49] at hP hD
        generalize eI37 : va_up I9 49 (upd (I9 49) k (-1)) = I37 at hP hD
        have hT37 : RT18 I37 T := RT18_eqx hT9 (fun j h1 h2 => by rw [← eI37]; simp only [va_up]; rw [if_neg (by omega)])
        refine lv_aload_n hx hb dX4_routeAll_38 rfl (lv_at hl 0 rfl) ?_
        refine lv_iload_n hx hb dX4_routeAll_39 rfl (lv_at hl 1 rfl) ?_
        refine rk_i (run_v (As := [.int (nI k)]) (rest := []) (b := (ad 17)) hx hb hml hown hO.2 (c_X4_isDirect l D y ad cap I37 J hT37 hW0 hnM hJ (b0 := k) (by omega)) k_X4_isDirect ml_X4_94 ⟨rfl, rfl⟩ ⟨Nat.le_of_ble_eq_true rfl, Nat.le_of_ble_eq_true rfl⟩ (pre_VR hO hP (wd_17 y ad cap I37 J) rfl) rfl hl.1 rfl (Nat.le_of_ble_eq_true rfl) dX4_routeAll_40 ⟨(Nat.zero_le _), (Nat.zero_le _)⟩) (fun r40 er40 => ?_)
        try dsimp only at er40
        refine lv_if_eq (tgt := 66) hx hb dX4_routeAll_43 (by decide) (fun c43 => ?_) (fun c43 => ?_)
        · skip
          have c43 := if01_z er40 c43
          have hTH37 : TH I37 J T (cap 0) M [] := by
            have e9 : EqX [17, 43, 48, 49] I I37 := by subst eI37; exact EqX.up hE9 (by decide)
            unfold TH at hTH ⊢
            simp only [e9 38 (by decide), e9 39 (by decide), e9 40 (by decide), e9 41 (by decide), e9 42 (by decide), e9 44 (by decide), e9 46 (by decide), e9 47 (by decide)]
            exact hTH
          have hRV37 : RV T M I37 k := by
            obtain ⟨g1, g2, g3⟩ := hRV
            subst eI37
            refine ⟨fun b hb => ?_, ?_, ?_⟩
            · have hne : b ≠ k := by omega
              simpa [va_up, upd, hne] using g1 b hb
            · simpa [va_up] using g2
            · simpa [va_up] using g3
          have h5 : I37 17 5 = I9 17 5 := by subst eI37; simp [va_up]
          refine lv_aload_n hx hb dX4_routeAll_66 rfl (lv_at hl 0 rfl) ?_
          refine lv_iload_n hx hb dX4_routeAll_67 rfl (lv_at hl 1 rfl) ?_
          refine wk_v (Wf := Wt y) (run_v (As := [.int (nI k)]) (rest := []) (b := (ad 17)) hx hb hml hown hO.2 (c_X4_routeByThunk l D y ad cap I37 J H.size hT37 hW0 hTWM hJ hTH37 hPL htz0 (b0 := k) (by omega) c43 hRV37) k_X4_routeByThunk ml_X4_183 ⟨rfl, rfl⟩ ⟨Nat.le_of_ble_eq_true rfl, Nat.le_of_ble_eq_true rfl⟩ (pre_VW hO hP hD (wd_17 y ad cap I37 J) rfl) rfl hl.1 rfl (Nat.le_of_ble_eq_true rfl) dX4_routeAll_68 ⟨(Nat.zero_le _), (Nat.zero_le _)⟩) hD hS hA (fun u68 H locs hp68 hP hD hS => ?_)
          try dsimp only at hp68
          obtain ⟨I68, rfl, hE68, h68, hRV68⟩ := hp68
          have hP : va_P D vwCl (Wd y ad cap I68 J) H := hP
          have hD : va_D A (Wd y ad cap I68 J) := hD
          refine lv_iinc (v := (nI (k + 1))) (lv' := [(1, .int (nI (k + 1))), (0, .ref (ad 17))]) hx hb dX4_routeAll_71 hl (k := 1) rfl (nI_1 _) (by decide) rfl (fun ls hl => ?_)
          refine lv_goto (tgt := 17) hx hb dX4_routeAll_74 (by decide) ?_
          exact ih17 (k + 1) I68 (by omega) hRV68 (EqX.tr2 (show EqX [17, 43, 48, 49] I I37 from by subst eI37; exact EqX.up hE9 (by decide)) hE68 (by decide) (by decide)) (by rw [h68, h5]; exact h95) (by omega) _ _ hP hD hS ls (by exact lv_sub hl [1, 0] rfl)
        · skip
          have c43 := if01_n er40 c43
          obtain ⟨hwy, hrt⟩ := wy_dir c43
          have hwc := wc_le T M 0 k
          refine lv_aload_n hx hb dX4_routeAll_46 rfl (lv_at hl 0 rfl) ?_
          refine va_get (D := D) (T := TX4) (N := 9) hx hb hts jnX4 hown hK hP 17 (wd_17 y ad cap I37 J) rfl 3 (by decide) (hts _ fl_X4_32) (fun _ h9 => h9) rfl dX4_routeAll_47 ?_
          refine lv_iload_n hx hb dX4_routeAll_50 rfl (lv_at hl 1 rfl) ?_
          refine lv_iconst (v := 0) hx hb dX4_routeAll_51 (by decide) ?_
          refine va_iast (D := D) hx hb hK hP hD hS 48 0 (wd_48 y ad cap I37 J) rfl (vp_in_nI (by omega) (by omega)) dX4_routeAll_52 (fun H locs hP hD hS => ?_)
          rw [nI_clamp (n := k) (by omega)] at hP hD
          rw [ws_48] at hP hD
          generalize eI52 : va_up I37 48 (upd (I37 48) k 0) = I52 at hP hD
          refine lv_aload_n hx hb dX4_routeAll_53 rfl (lv_at hl 0 rfl) ?_
          refine lv_dup hx hb dX4_routeAll_54 rfl ?_
          refine va_get (D := D) (T := TX4) (N := 9) hx hb hts jnX4 hown hK hP 17 (wd_17 y ad cap I52 J) rfl 6 (by decide) (hts _ fl_X4_43) (fun _ h9 => h9) rfl dX4_routeAll_55 ?_
          refine lv_topi (fun v55 ev55 => ?_)
          obtain rfl : v55 = (nI (wc T M 0 k)) := by
            rw [ev55, ← eI52, ← eI37]; simpa [va_up] using hRV.2.1.1
          refine lv_iconst (v := 1) hx hb dX4_routeAll_58 (by decide) ?_
          refine lv_iadd hx hb dX4_routeAll_59 ?_
          refine lv_topi (fun v59 ev59 => ?_)
          obtain rfl : v59 = (nI ((wc T M 0 k) + 1)) := by rw [ev59, show (1 : Int32) = nI 1 from rfl, nI_add]
          refine va_put (D := D) (T := TX4) (N := 9) (v := .int (nI ((wc T M 0 k) + 1))) (ty := .int) hx hb hts jnX4 tyX4 tyX4_ok nmX4 hown hK hP hD hS 17 (wd_17 y ad cap I52 J) rfl 6 (by decide) (hts _ fl_X4_43) (fun _ h9 => h9) rfl (by decide +kernel) rfl rfl (Nat.le_of_ble_eq_true rfl) dX4_routeAll_60 (fun H locs hP hD hS => ?_)
          rw [wp_17_6] at hP hD
          generalize eI60 : va_up I52 17 (upd (I52 17) 6 (nI ((wc T M 0 k) + 1))) = I60 at hP hD
          refine lv_goto (tgt := 71) hx hb dX4_routeAll_63 (by decide) ?_
          refine lv_iinc (v := (nI (k + 1))) (lv' := [(1, .int (nI (k + 1))), (0, .ref (ad 17))]) hx hb dX4_routeAll_71 hl (k := 1) rfl (nI_1 _) (by decide) rfl (fun ls hl => ?_)
          refine lv_goto (tgt := 17) hx hb dX4_routeAll_74 (by decide) ?_
          exact ih17 (k + 1) I60 (by omega) (RV_dir hRV hwy hrt eI37 eI52 eI60).1 (EqX.tr2 hE9 (RV_dir hRV hwy hrt eI37 eI52 eI60).2.1 (by decide) (by decide)) (by rw [(RV_dir hRV hwy hrt eI37 eI52 eI60).2.2]; exact h95) (by omega) _ _ hP hD hS ls (by exact lv_sub hl [1, 0] rfl)
  exact loop17 (T 0 2 + 1) 0 I12 (by omega) ⟨fun b hb => absurd hb (by omega), ⟨by subst eI12 eI7 eI2; simp [va_up, upd, wc]; rfl, by subst eI12 eI7 eI2; simp [va_up, upd, wc]; rfl, by subst eI12 eI7 eI2; simp [va_up, upd, wc]; rfl⟩, fun t ht => by subst eI12 eI7 eI2; simp only [va_up, us]; rw [if_neg (by decide), if_neg (by decide), if_neg (by decide), hU t ht]; rfl⟩ (by subst eI12 eI7 eI2; refine EqX.up (EqX.up (EqX.up EqX.rf ?_) ?_) ?_ <;> decide) (by subst eI12 eI7 eI2; simp [va_up, upd]) (by omega) _ _ hP hD hS ls (by exact lv_sub hl [1, 0] rfl)
