def inR (v lo hi : Int32) : Prop := ¬ v < lo ∧ ¬ hi < v
theorem inR_nat {v hi : Int32} {n : Nat} (hn : hi.toInt = n) (h : inR v 0 hi) : v = nI v.toNatClampNeg ∧ v.toNatClampNeg ≤ n := by
  obtain ⟨j, h1, h2⟩ := nI_of2 hn h.1 (Int32.not_lt.mp h.2)
  have h3 : hi.toInt < 2 ^ 31 := Int32.toInt_lt hi
  rw [h2, nI_clamp (by omega)]
  exact ⟨rfl, h1⟩
theorem nar01 {q : Nat} (h : q ≤ 1) : vp_nar .boolean (nI q) = nI q := by
  rcases (show q = 0 ∨ q = 1 by omega) with rfl | rfl <;> decide
theorem fit01 {q : Nat} (h : q ≤ 1) : narrow .boolean (.int (nI q)) = .int (nI q) := by
  rcases (show q = 0 ∨ q = 1 by omega) with rfl | rfl <;> decide
/-- does a telling do something -/
def secV (T : Nat → Nat → Nat) (p1 p2 : Int32) : Prop := T 0 0 < 40 ∧ inR p1 0 1000000 ∧ inR p2 0 12
def labV (T : Nat → Nat → Nat) (p1 p2 : Int32) : Prop := T 0 1 < 60 ∧ (¬ p1 < 0 ∧ ¬ nI (T 0 0) ≤ p1) ∧ inR p2 0 (nI (T 1 p1.toNatClampNeg))
def kndV (p1 p2 p3 : Int32) : Prop := inR p1 0 7 ∧ (p2 = 1 ∨ p2 = 2 ∨ p2 = 4 ∨ p2 = 8) ∧ inR p3 4 30
def knd (T : Nat → Nat → Nat) (p : Int32) : Prop := (¬ p < 0 ∧ ¬ 8 ≤ p) ∧ ¬ T 11 p.toNatClampNeg = 0
def braV (T : Nat → Nat → Nat) (p1 p2 p3 p4 : Int32) : Prop := T 0 2 < 200 ∧ (¬ p1 < 0 ∧ ¬ nI (T 0 0) ≤ p1) ∧ (¬ p2 < 0 ∧ p2 < nI (T 1 p1.toNatClampNeg)) ∧ knd T p3 ∧ (¬ p4 < 0 ∧ ¬ nI (T 0 1) ≤ p4)
def thkV (T : Nat → Nat → Nat) (p1 p2 p3 : Int32) : Prop := inR p1 1 64 ∧ inR p2 0 6 ∧ knd T p3
def rszV (T : Nat → Nat → Nat) (p1 p2 : Int32) : Prop := (¬ p1 < 0 ∧ ¬ nI (T 0 0) ≤ p1) ∧ inR p2 0 1000000 ∧ (∀ l, l < T 0 1 → nI (T 4 l) = p1 → ¬ p2 < nI (T 5 l)) ∧ (∀ b, b < T 0 2 → nI (T 6 b) = p1 → nI (T 7 b) < p2)
def rtgV (T : Nat → Nat → Nat) (p1 p2 : Int32) : Prop := (¬ p1 < 0 ∧ ¬ nI (T 0 2) ≤ p1) ∧ (¬ p2 < 0 ∧ ¬ nI (T 0 1) ≤ p2)
set_option maxHeartbeats 4000000 in
set_option maxRecDepth 100000 in
theorem c_X5_append (l : Launch) (D : va_G) (y : Nat → ClassId) (ad : Nat → Nat) (cap : Nat) (I : Nat → Nat → Int32) (J : Nat → Nat → Int64) (sz : Nat) {T : Nat → Nat → Nat} (hT : RT1 I T) (hW : WF T) (p1 p2 : Int32) {q0 : Nat} (hq0 : q0 ≤ 1) : Met l yX5_append [.code yX5_append cX5_append 5 (some .int)] ({ frames := 1, cells := 0, slots := 0, locals := 20 }) (va_Pc [.ref (ad 2), .int p1, .int p2, .int (nI q0)] (PW D y (Wd y ad cap I J) sz)) (va_Qi (fun (r : Int32) (u : St4) => ∃ I', u = (ad, cap, I', J) ∧ EqX [2, 3, 4, 5] I I' ∧ (secV T p1 p2 → r = nI (T 0 0) ∧ RT1 I' (addS T p1.toNatClampNeg p2.toNatClampNeg q0)) ∧ (¬ secV T p1 p2 → r = -1 ∧ I' = I)) (Aft D (Wt y) (Wd y ad cap I J) sz) (va_A (Wd y ad cap I J) sz)) 0 0 (va_A (Wd y ad cap I J) sz) := by
  refine Met.ofW (cc := cX5_append) (maxL := 5) (ret := (some .int)) (by decide) rfl ?_
  intro p e s m args below meth c s₁ B hml hv
  obtain ⟨rfl, rfl, hP, hD0, hO⟩ := hv
  have hx := B.exec
  have hb := B.bytes
  have hr := B.returns
  have hown : s.vm.findClass RX5 = some m.cls := findClass_of_methodNamed B.named
  have hlocks := B.notSynchronized
  have hK := hO.1
  have hts : ∀ w ∈ lw_E, w.before ([.ref (ad 2), .int p1, .int p2, .int (nI q0)] : List Value).toArray s = true := fun w h => hO.2 w h _
  clear B
  have hD := hD0.self (sz := s.heap.size)
  generalize hAe : va_A (Wd y ad cap I J) s.heap.size = A at hD ⊢
  have hA : ∀ q : Nat, s.heap.size ≤ q → A q := fun q h => by rw [← hAe]; exact Or.inr h
  have hS : va_S A s.heap s.heap [] := va_S.rf
  have hl := lv_entry ([.ref (ad 2), .int p1, .int p2, .int (nI q0)]) (n := 5) (Nat.le_of_ble_eq_true rfl)
  rw [lg_entry_eq]
  generalize (lg_sl ([.ref (ad 2), .int p1, .int p2, .int (nI q0)]) ++ List.replicate (5 - (lg_sl ([.ref (ad 2), .int p1, .int p2, .int (nI q0)])).length) Slot.unset).toArray = ls at hl ⊢
  have hl : lv_has ls 5 [(0, .ref (ad 2)), (1, .int p1), (2, .int p2), (3, .int (nI q0))] := hl
  have hW0 := hW
  obtain ⟨⟨w1, w2, w3, w4, w5, w6, w7⟩, wS, wL, wB, wK, wTk, wT0⟩ := hW
  refine lv_aload_n hx hb dX5_append_0 rfl (lv_at hl 0 rfl) ?_
  refine va_get (D := D) (T := TX5) (N := 5) hx hb hts jnX5 hown hK hP 2 (wd_2 y ad cap I J) rfl 0 (by decide) (hts _ fl_X5_9) (fun _ h9 => h9) rfl dX5_append_1 ?_
  refine lv_topi (fun v1 ev1 => ?_)
  obtain rfl : v1 = (nI (T 0 0)) := by
    rw [ev1]; exact hT.1.1
  refine lv_bipush (v := 40) hx hb dX5_append_4 (by decide) ?_
  refine lv_icmp_ge (tgt := 26) hx hb dX5_append_6 (by decide) (fun c6 => ?_) (fun c6 => ?_)
  · skip
    have c6 := (nI_leI (a := 40) (b := (T 0 0)) (by omega) (by omega)).mp c6
    refine lv_iconst (v := (-1)) hx hb dX5_append_26 (by decide) ?_
    refine W.iret (v := (-1)) hx hb hr (fun t ht hW => ⟨⟨_, (ad, cap, I, J), rfl, ?_, by rw [ht]; exact hP, by show va_D (va_A (Wd y ad cap I J) s.heap.size) _; rw [hAe]; exact hD⟩, hS.F ht⟩) hS.2.2 dX5_append_27
    refine ⟨I, rfl, EqX.rf, fun h9 => absurd h9 (fun h8 => ?_), fun _ => ⟨rfl, rfl⟩⟩
    obtain ⟨g1, g2, g3, g4⟩ := h8
    first | omega | exact c13 g2 | exact g3 c17 | exact c23 (Int32.not_lt.mp g4)
  · skip
    have c6 := mt (nI_leI (a := 40) (b := (T 0 0)) (by omega) (by omega)).mpr c6
    refine lv_iload_n hx hb dX5_append_9 rfl (lv_at hl 1 rfl) ?_
    refine rk_i (run_s (As := [.int p1]) (rest := []) hx hb hml hown hO.2 (c_X5_isSize l D y p1) k_X5_isSize ml_X5_34 ⟨rfl, rfl⟩ ⟨Nat.le_of_ble_eq_true rfl, Nat.le_of_ble_eq_true rfl⟩ (pre_SR hO hP) rfl hl.1 rfl (Nat.le_of_ble_eq_true rfl) dX5_append_10 ⟨(Nat.zero_le _), (Nat.zero_le _)⟩) (fun r10 er10 => ?_)
    try dsimp only at er10
    refine lv_if_eq (tgt := 26) hx hb dX5_append_13 (by decide) (fun c13 => ?_) (fun c13 => ?_)
    · skip
      have c13 := if01_z er10 c13
      refine lv_iconst (v := (-1)) hx hb dX5_append_26 (by decide) ?_
      refine W.iret (v := (-1)) hx hb hr (fun t ht hW => ⟨⟨_, (ad, cap, I, J), rfl, ?_, by rw [ht]; exact hP, by show va_D (va_A (Wd y ad cap I J) s.heap.size) _; rw [hAe]; exact hD⟩, hS.F ht⟩) hS.2.2 dX5_append_27
      refine ⟨I, rfl, EqX.rf, fun h9 => absurd h9 (fun h8 => ?_), fun _ => ⟨rfl, rfl⟩⟩
      obtain ⟨g1, g2, g3, g4⟩ := h8
      first | omega | exact c13 g2 | exact g3 c17 | exact c23 (Int32.not_lt.mp g4)
    · skip
      have c13 := if01_n er10 c13
      refine lv_iload_n hx hb dX5_append_16 rfl (lv_at hl 2 rfl) ?_
      refine lv_if_lt (tgt := 26) hx hb dX5_append_17 (by decide) (fun c17 => ?_) (fun c17 => ?_)
      · skip
        refine lv_iconst (v := (-1)) hx hb dX5_append_26 (by decide) ?_
        refine W.iret (v := (-1)) hx hb hr (fun t ht hW => ⟨⟨_, (ad, cap, I, J), rfl, ?_, by rw [ht]; exact hP, by show va_D (va_A (Wd y ad cap I J) s.heap.size) _; rw [hAe]; exact hD⟩, hS.F ht⟩) hS.2.2 dX5_append_27
        refine ⟨I, rfl, EqX.rf, fun h9 => absurd h9 (fun h8 => ?_), fun _ => ⟨rfl, rfl⟩⟩
        obtain ⟨g1, g2, g3, g4⟩ := h8
        first | omega | exact c13 g2 | exact g3 c17 | exact c23 (Int32.not_lt.mp g4)
      · skip
        refine lv_iload_n hx hb dX5_append_20 rfl (lv_at hl 2 rfl) ?_
        refine lv_bipush (v := 12) hx hb dX5_append_21 (by decide) ?_
        refine lv_icmp_le (tgt := 28) hx hb dX5_append_23 (by decide) (fun c23 => ?_) (fun c23 => ?_)
        · skip
          have hV : secV T p1 p2 := ⟨by omega, c13, c17, Int32.not_lt.mpr c23⟩
          obtain ⟨a1, ha⟩ := inR_nat (n := 1000000) rfl hV.2.1
          obtain ⟨k1, hk⟩ := inR_nat (n := 12) rfl hV.2.2
          generalize p1.toNatClampNeg = a at a1 ha ⊢
          generalize p2.toNatClampNeg = k at k1 hk ⊢
          subst a1
          subst k1
          clear c13 c17 c23 er10
          refine lv_aload_n hx hb dX5_append_28 rfl (lv_at hl 0 rfl) ?_
          refine va_get (D := D) (T := TX5) (N := 5) hx hb hts jnX5 hown hK hP 2 (wd_2 y ad cap I J) rfl 0 (by decide) (hts _ fl_X5_9) (fun _ h9 => h9) rfl dX5_append_29 ?_
          refine lv_topi (fun v29 ev29 => ?_)
          obtain rfl : v29 = (nI (T 0 0)) := by
            rw [ev29]; exact hT.1.1
          refine lv_istore (lv' := [(4, .int (nI (T 0 0))), (0, .ref (ad 2)), (1, .int (nI a)), (2, .int (nI k)), (3, .int (nI q0))]) hx hb dX5_append_32 hl (by decide) rfl (fun ls hl => ?_)
          refine lv_aload_n hx hb dX5_append_34 rfl (lv_at hl 1 rfl) ?_
          refine va_get (D := D) (T := TX5) (N := 5) hx hb hts jnX5 hown hK hP 2 (wd_2 y ad cap I J) rfl 2 (by decide) (hts _ fl_X5_18) (fun _ h9 => h9) rfl dX5_append_35 ?_
          refine lv_iload hx hb dX5_append_38 (lv_at hl 0 rfl) ?_
          refine lv_iload_n hx hb dX5_append_40 rfl (lv_at hl 2 rfl) ?_
          refine va_iast (D := D) hx hb hK hP hD hS 3 0 (wd_3 y ad cap I J) rfl (vp_in_nI (by omega) (by omega)) dX5_append_41 (fun H locs hP hD hS => ?_)
          rw [nI_clamp (n := T 0 0) (by omega)] at hP hD
          rw [ws_3] at hP hD
          generalize eI41 : va_up I 3 (upd (I 3) (T 0 0) (nI a)) = I41 at hP hD
          refine lv_aload_n hx hb dX5_append_42 rfl (lv_at hl 1 rfl) ?_
          refine va_get (D := D) (T := TX5) (N := 5) hx hb hts jnX5 hown hK hP 2 (wd_2 y ad cap I41 J) rfl 3 (by decide) (hts _ fl_X5_22) (fun _ h9 => h9) rfl dX5_append_43 ?_
          refine lv_iload hx hb dX5_append_46 (lv_at hl 0 rfl) ?_
          refine lv_iconst (v := 1) hx hb dX5_append_48 (by decide) ?_
          refine lv_iload_n hx hb dX5_append_49 rfl (lv_at hl 3 rfl) ?_
          refine lv_ishl hx hb dX5_append_50 ?_
          refine lv_topi (fun v50 ev50 => ?_)
          obtain rfl : v50 = ((1 : Int32) <<< (nI k &&& 31)) := by
            exact ev50
          refine va_iast (D := D) hx hb hK hP hD hS 4 0 (wd_4 y ad cap I41 J) rfl (vp_in_nI (by omega) (by omega)) dX5_append_51 (fun H locs hP hD hS => ?_)
          rw [nI_clamp (n := T 0 0) (by omega)] at hP hD
          rw [ws_4] at hP hD
          generalize eI51 : va_up I41 4 (upd (I41 4) (T 0 0) ((1 : Int32) <<< (nI k &&& 31))) = I51 at hP hD
          refine lv_aload_n hx hb dX5_append_52 rfl (lv_at hl 1 rfl) ?_
          refine va_get (D := D) (T := TX5) (N := 5) hx hb hts jnX5 hown hK hP 2 (wd_2 y ad cap I51 J) rfl 4 (by decide) (hts _ fl_X5_25) (fun _ h9 => h9) rfl dX5_append_53 ?_
          refine lv_iload hx hb dX5_append_56 (lv_at hl 0 rfl) ?_
          refine lv_iload_n hx hb dX5_append_58 rfl (lv_at hl 4 rfl) ?_
          refine va_zast (D := D) hx hb hK hP hD hS 5 2 (wd_5 y ad cap I51 J) rfl (vp_in_nI (by omega) (by omega)) dX5_append_59 (fun H locs hP hD hS => ?_)
          rw [nI_clamp (n := T 0 0) (by omega)] at hP hD
          rw [nar01 hq0] at hP hD
          rw [ws_5] at hP hD
          generalize eI59 : va_up I51 5 (upd (I51 5) (T 0 0) (nI q0)) = I59 at hP hD
          refine lv_iload_n hx hb dX5_append_60 rfl (lv_at hl 4 rfl) ?_
          refine lv_if_eq (tgt := 74) hx hb dX5_append_61 (by decide) (fun c61 => ?_) (fun c61 => ?_)
          · skip
            refine lv_aload_n hx hb dX5_append_74 rfl (lv_at hl 1 rfl) ?_
            refine lv_dup hx hb dX5_append_75 rfl ?_
            refine va_get (D := D) (T := TX5) (N := 5) hx hb hts jnX5 hown hK hP 2 (wd_2 y ad cap I59 J) rfl 0 (by decide) (hts _ fl_X5_9) (fun _ h9 => h9) rfl dX5_append_76 ?_
            refine lv_topi (fun v76 ev76 => ?_)
            obtain rfl : v76 = (nI (T 0 0)) := by
              rw [ev76, ← eI59, ← eI51, ← eI41]; simpa [va_up, upd] using hT.1.1
            refine lv_iconst (v := 1) hx hb dX5_append_79 (by decide) ?_
            refine lv_iadd hx hb dX5_append_80 ?_
            refine lv_topi (fun v80 ev80 => ?_)
            obtain rfl : v80 = (nI ((T 0 0) + 1)) := by rw [ev80, show (1 : Int32) = nI 1 from rfl, nI_add]
            refine va_put (D := D) (T := TX5) (N := 5) (v := .int (nI ((T 0 0) + 1))) (ty := .int) hx hb hts jnX5 tyX5 tyX5_ok nmX5 hown hK hP hD hS 2 (wd_2 y ad cap I59 J) rfl 0 (by decide) (hts _ fl_X5_9) (fun _ h9 => h9) rfl (by decide +kernel) rfl rfl (Nat.le_of_ble_eq_true rfl) dX5_append_81 (fun H locs hP hD hS => ?_)
            rw [wp_2_0] at hP hD
            generalize eI81 : va_up I59 2 (upd (I59 2) 0 (nI ((T 0 0) + 1))) = I81 at hP hD
            refine lv_iload hx hb dX5_append_84 (lv_at hl 0 rfl) ?_
            refine W.iret (v := (nI (T 0 0))) hx hb hr (fun t ht hW => ⟨⟨_, (ad, cap, I81, J), rfl, ?_, by rw [ht]; exact hP, by show va_D (va_A (Wd y ad cap I J) s.heap.size) _; rw [hAe]; exact hD⟩, hS.F ht⟩) hS.2.2 dX5_append_86
            refine ⟨_, rfl, ?_, fun _ => ⟨rfl, RT1_addS (a := a) (k := k) (q := q0) hT hk eI41.symm eI51.symm eI59.symm (Or.inl ⟨(nI_z (by omega)).mp c61, rfl⟩) eI81.symm⟩, fun h9 => absurd hV h9⟩
            subst_vars
            refine EqX.up (EqX.up (EqX.up (EqX.up (EqX.rf) ?_) ?_) ?_) ?_ <;> decide
          · skip
            
            refine lv_aload_n hx hb dX5_append_64 rfl (lv_at hl 1 rfl) ?_
            refine lv_dup hx hb dX5_append_65 rfl ?_
            refine va_get (D := D) (T := TX5) (N := 5) hx hb hts jnX5 hown hK hP 2 (wd_2 y ad cap I59 J) rfl 1 (by decide) (hts _ fl_X5_15) (fun _ h9 => h9) rfl dX5_append_66 ?_
            refine lv_topi (fun v66 ev66 => ?_)
            obtain rfl : v66 = (nI (T 0 3)) := by
              rw [ev66, ← eI59, ← eI51, ← eI41]; simpa [va_up] using hT.1.2.2.2.1
            refine lv_iconst (v := 1) hx hb dX5_append_69 (by decide) ?_
            refine lv_iadd hx hb dX5_append_70 ?_
            refine lv_topi (fun v70 ev70 => ?_)
            obtain rfl : v70 = (nI ((T 0 3) + 1)) := by rw [ev70, show (1 : Int32) = nI 1 from rfl, nI_add]
            refine va_put (D := D) (T := TX5) (N := 5) (v := .int (nI ((T 0 3) + 1))) (ty := .int) hx hb hts jnX5 tyX5 tyX5_ok nmX5 hown hK hP hD hS 2 (wd_2 y ad cap I59 J) rfl 1 (by decide) (hts _ fl_X5_15) (fun _ h9 => h9) rfl (by decide +kernel) rfl rfl (Nat.le_of_ble_eq_true rfl) dX5_append_71 (fun H locs hP hD hS => ?_)
            rw [wp_2_1] at hP hD
            generalize eI71 : va_up I59 2 (upd (I59 2) 1 (nI ((T 0 3) + 1))) = I71 at hP hD
            refine lv_aload_n hx hb dX5_append_74 rfl (lv_at hl 1 rfl) ?_
            refine lv_dup hx hb dX5_append_75 rfl ?_
            refine va_get (D := D) (T := TX5) (N := 5) hx hb hts jnX5 hown hK hP 2 (wd_2 y ad cap I71 J) rfl 0 (by decide) (hts _ fl_X5_9) (fun _ h9 => h9) rfl dX5_append_76 ?_
            refine lv_topi (fun v76 ev76 => ?_)
            obtain rfl : v76 = (nI (T 0 0)) := by
              rw [ev76, ← eI71, ← eI59, ← eI51, ← eI41]; simpa [va_up, upd] using hT.1.1
            refine lv_iconst (v := 1) hx hb dX5_append_79 (by decide) ?_
            refine lv_iadd hx hb dX5_append_80 ?_
            refine lv_topi (fun v80 ev80 => ?_)
            obtain rfl : v80 = (nI ((T 0 0) + 1)) := by rw [ev80, show (1 : Int32) = nI 1 from rfl, nI_add]
            refine va_put (D := D) (T := TX5) (N := 5) (v := .int (nI ((T 0 0) + 1))) (ty := .int) hx hb hts jnX5 tyX5 tyX5_ok nmX5 hown hK hP hD hS 2 (wd_2 y ad cap I71 J) rfl 0 (by decide) (hts _ fl_X5_9) (fun _ h9 => h9) rfl (by decide +kernel) rfl rfl (Nat.le_of_ble_eq_true rfl) dX5_append_81 (fun H locs hP hD hS => ?_)
            rw [wp_2_0] at hP hD
            generalize eI81 : va_up I71 2 (upd (I71 2) 0 (nI ((T 0 0) + 1))) = I81 at hP hD
            refine lv_iload hx hb dX5_append_84 (lv_at hl 0 rfl) ?_
            refine W.iret (v := (nI (T 0 0))) hx hb hr (fun t ht hW => ⟨⟨_, (ad, cap, I81, J), rfl, ?_, by rw [ht]; exact hP, by show va_D (va_A (Wd y ad cap I J) s.heap.size) _; rw [hAe]; exact hD⟩, hS.F ht⟩) hS.2.2 dX5_append_86
            refine ⟨_, rfl, ?_, fun _ => ⟨rfl, RT1_addS (a := a) (k := k) (q := q0) hT hk eI41.symm eI51.symm eI59.symm (Or.inr ⟨by have := mt (nI_z (by omega)).mpr c61; omega, eI71.symm⟩) eI81.symm⟩, fun h9 => absurd hV h9⟩
            subst_vars
            refine EqX.up (EqX.up (EqX.up (EqX.up (EqX.up (EqX.rf) ?_) ?_) ?_) ?_) ?_ <;> decide
        · skip
          refine lv_iconst (v := (-1)) hx hb dX5_append_26 (by decide) ?_
          refine W.iret (v := (-1)) hx hb hr (fun t ht hW => ⟨⟨_, (ad, cap, I, J), rfl, ?_, by rw [ht]; exact hP, by show va_D (va_A (Wd y ad cap I J) s.heap.size) _; rw [hAe]; exact hD⟩, hS.F ht⟩) hS.2.2 dX5_append_27
          refine ⟨I, rfl, EqX.rf, fun h9 => absurd h9 (fun h8 => ?_), fun _ => ⟨rfl, rfl⟩⟩
          obtain ⟨g1, g2, g3, g4⟩ := h8
          first | omega | exact c13 g2 | exact g3 c17 | exact c23 (Int32.not_lt.mp g4)
