def inR (v lo hi : Int32) : Prop := ¬ v < lo ∧ ¬ hi < v
theorem inR_nat {v hi : Int32} {n : Nat} (hn : hi.toInt = n) (h : inR v 0 hi) : v = nI v.toNatClampNeg ∧ v.toNatClampNeg ≤ n := by
  obtain ⟨j, h1, h2⟩ := nI_of2 hn h.1 (Int32.not_lt.mp h.2)
  have h3 : hi.toInt < 2 ^ 31 := Int32.toInt_lt hi
  rw [h2, nI_clamp (by omega)]
  exact ⟨rfl, h1⟩
theorem nar01 {q : Nat} (h : q ≤ 1) : vp_nar .boolean (nI q) = nI q := by
  rcases (show q = 0 ∨ q = 1 by omega) with rfl | rfl <;> decide
theorem fit01 {q : Nat} (h : q ≤ 1) : narrow .boolean (.int (nI q)) = .int (nI q) := by
  rcases (show q = 0 ∨ q = 1 by omega) with rfl | rfl <;> decide
/-- does a telling do something -/
def secV (T : Nat → Nat → Nat) (p1 p2 : Int32) : Prop := T 0 0 < 40 ∧ inR p1 0 1000000 ∧ inR p2 0 12
def labV (T : Nat → Nat → Nat) (p1 p2 : Int32) : Prop := T 0 1 < 60 ∧ (¬ p1 < 0 ∧ ¬ nI (T 0 0) ≤ p1) ∧ inR p2 0 (nI (T 1 p1.toNatClampNeg))
def kndV (p1 p2 p3 : Int32) : Prop := inR p1 0 7 ∧ (p2 = 1 ∨ p2 = 2 ∨ p2 = 4 ∨ p2 = 8) ∧ inR p3 4 30
def knd (T : Nat → Nat → Nat) (p : Int32) : Prop := (¬ p < 0 ∧ ¬ 8 ≤ p) ∧ ¬ T 11 p.toNatClampNeg = 0
def braV (T : Nat → Nat → Nat) (p1 p2 p3 p4 : Int32) : Prop := T 0 2 < 200 ∧ (¬ p1 < 0 ∧ ¬ nI (T 0 0) ≤ p1) ∧ (¬ p2 < 0 ∧ p2 < nI (T 1 p1.toNatClampNeg)) ∧ knd T p3 ∧ (¬ p4 < 0 ∧ ¬ nI (T 0 1) ≤ p4)
def thkV (T : Nat → Nat → Nat) (p1 p2 p3 : Int32) : Prop := inR p1 1 64 ∧ inR p2 0 6 ∧ knd T p3
def rszV (T : Nat → Nat → Nat) (p1 p2 : Int32) : Prop := (¬ p1 < 0 ∧ ¬ nI (T 0 0) ≤ p1) ∧ inR p2 0 1000000 ∧ (∀ l, l < T 0 1 → nI (T 4 l) = p1 → ¬ p2 < nI (T 5 l)) ∧ (∀ b, b < T 0 2 → nI (T 6 b) = p1 → nI (T 7 b) < p2)
def rtgV (T : Nat → Nat → Nat) (p1 p2 : Int32) : Prop := (¬ p1 < 0 ∧ ¬ nI (T 0 2) ≤ p1) ∧ (¬ p2 < 0 ∧ ¬ nI (T 0 1) ≤ p2)
set_option maxHeartbeats 4000000 in
set_option maxRecDepth 100000 in
theorem c_X5_append (l : Launch) (D : va_G) (y : Nat → ClassId) (ad : Nat → Nat) (cap : Nat → Nat) (I : Nat → Nat → Int32) (J : Nat → Nat → Int64) (sz : Nat) {T : Nat → Nat → Nat} (hT : RT1 I T) (hW : WF T) (p1 p2 : Int32) {q0 : Nat} (hq0 : q0 ≤ 1) : Met l yX5_append [.code yX5_append cX5_append 5 (some .int)] ({ frames := 1, cells := 0, slots := 0, locals := 20 }) (va_Pc [.ref (ad 2), .int p1, .int p2, .int (nI q0)] (PW D y (Wd y ad cap I J) sz)) (va_Qi (fun (r : Int32) (u : St4) => ∃ I', u = (ad, cap, I', J) ∧ EqX [2, 3, 4, 5] I I' ∧ (secV T p1 p2 → r = nI (T 0 0) ∧ RT1 I' (addS T p1.toNatClampNeg p2.toNatClampNeg q0)) ∧ (¬ secV T p1 p2 → r = -1 ∧ I' = I)) (Aft D (Wt y) (Wd y ad cap I J) sz) (va_A (Wd y ad cap I J) sz)) 0 0 (va_A (Wd y ad cap I J) sz) := by
  refine Met.ofW (cc := cX5_append) (maxL := 5) (ret := (some .int)) (by decide) rfl ?_
  intro p e s m args below meth c s₁ B hml hv
  obtain ⟨rfl, rfl, hP, hD0, hO⟩ := hv
  have hx := B.exec
  have hb := B.bytes
  have hr := B.returns
  have hown : s.vm.findClass RX5 = some m.cls := findClass_of_methodNamed B.named
  have hlocks := B.notSynchronized
  have hK := hO.1
  have hts : ∀ w ∈ lw_E, w.before ([.ref (ad 2), .int p1, .int p2, .int (nI q0)] : List Value).toArray s = true := fun w h => hO.2 w h _
  clear B
  have hD := hD0.self (sz := s.heap.size)
  generalize hAe : va_A (Wd y ad cap I J) s.heap.size = A at hD ⊢
  have hA : ∀ q : Nat, s.heap.size ≤ q → A q := fun q h => by rw [← hAe]; exact Or.inr h
  have hS : va_S A s.heap s.heap [] := va_S.rf
  have hl := lv_entry ([.ref (ad 2), .int p1, .int p2, .int (nI q0)]) (n := 5) (Nat.le_of_ble_eq_true rfl)
  rw [lg_entry_eq]
  generalize (lg_sl ([.ref (ad 2), .int p1, .int p2, .int (nI q0)]) ++ List.replicate (5 - (lg_sl ([.ref (ad 2), .int p1, .int p2, .int (nI q0)])).length) Slot.unset).toArray = ls at hl ⊢
  have hl : lv_has ls 5 [(0, .ref (ad 2)), (1, .int p1), (2, .int p2), (3, .int (nI q0))] := hl
  have hW0 := hW
  obtain ⟨⟨w1, w2, w3, w4, w5, w6, w7⟩, wS, wL, wB, wK, wTk, wT0⟩ := hW
  refine lv_aload_n hx hb dX5_append_0 rfl (lv_at hl 0 rfl) ?_
  refine va_get (D := D) (T := TX5) (N := 5) hx hb hts jnX5 hown hK hP 2 (wd_2 y ad cap I J) rfl 0 (by decide) (hts _ fl_X5_9) (fun _ h9 => h9) rfl dX5_append_1 ?_
  refine lv_topi (fun v1 ev1 => ?_)
  obtain rfl : v1 = (nI (T 0 0)) := by
    rw [ev1]; exact hT.1.1
  refine lv_bipush (v := 40) hx hb dX5_append_4 (by decide) ?_
  refine lv_icmp_ge (tgt := 26) hx hb dX5_append_6 (by decide) (fun c6 => ?_) (fun c6 => ?_)
  · skip
    have c6 := (nI_leI (a := 40) (b := (T 0 0)) (by omega) (by omega)).mp c6
    refine lv_iconst (v := (-1)) hx hb dX5_append_26 (by decide) ?_
    refine W.iret (v := (-1)) hx hb hr (fun t ht hW => ⟨⟨_, (ad, cap, I, J), rfl, ?_, by rw [ht]; exact hP, by show va_D (va_A (Wd y ad cap I J) s.heap.size) _; rw [hAe]; exact hD⟩, hS.F ht⟩) hS.2.2 dX5_append_27
    refine ⟨I, rfl, EqX.rf, fun h9 => absurd h9 (fun h8 => ?_), fun _ => ⟨rfl, rfl⟩⟩
    obtain ⟨g1, g2, g3, g4⟩ := h8
    first | omega | exact c13 g2 | exact g3 c17 | exact c23 (Int32.not_lt.mp g4)
  · skip
    have c6 := mt (nI_leI (a := 40) (b := (T 0 0)) (by omega) (by omega)).mpr c6
    refine lv_iload_n hx hb dX5_append_9 rfl (lv_at hl 1 rfl) ?_
    refine rk_i (run_s (As := [.int p1]) (rest := []) hx hb hml hown hO.2 (c_X5_isSize l D y p1) k_X5_isSize ml_X5_34 ⟨rfl, rfl⟩ ⟨Nat.le_of_ble_eq_true rfl, Nat.le_of_ble_eq_true rfl⟩ (pre_SR hO hP) rfl hl.1 rfl (Nat.le_of_ble_eq_true rfl) dX5_append_10 ⟨(Nat.zero_le _), (Nat.zero_le _)⟩) (fun r10 er10 => ?_)
    try dsimp only at er10
    refine lv_if_eq (tgt := 26) hx hb dX5_append_13 (by decide) (fun c13 => ?_) (fun c13 => ?_)
    · skip
      have c13 := if01_z er10 c13
      refine lv_iconst (v := (-1)) hx hb dX5_append_26 (by decide) ?_
      refine W.iret (v := (-1)) hx hb hr (fun t ht hW => ⟨⟨_, (ad, cap, I, J), rfl, ?_, by rw [ht]; exact hP, by show va_D (va_A (Wd y ad cap I J) s.heap.size) _; rw [hAe]; exact hD⟩, hS.F ht⟩) hS.2.2 dX5_append_27
      refine ⟨I, rfl, EqX.rf, fun h9 => absurd h9 (fun h8 => ?_), fun _ => ⟨rfl, rfl⟩⟩
      obtain ⟨g1, g2, g3, g4⟩ := h8
      first | omega | exact c13 g2 | exact g3 c17 | exact c23 (Int32.not_lt.mp g4)
    · skip
      have c13 := if01_n er10 c13
      refine lv_iload_n hx hb dX5_append_16 rfl (lv_at hl 2 rfl) ?_
      refine lv_if_lt (tgt := 26) hx hb dX5_append_17 (by decide) (fun c17 => ?_) (fun c17 => ?_)
      · skip
        refine lv_iconst (v := (-1)) hx hb dX5_append_26 (by decide) ?_
        refine W.iret (v := (-1)) hx hb hr (fun t ht hW => ⟨⟨_, (ad, cap, I, J), rfl, ?_, by rw [ht]; exact hP, by show va_D (va_A (Wd y ad cap I J) s.heap.size) _; rw [hAe]; exact hD⟩, hS.F ht⟩) hS.2.2 dX5_append_27
        refine ⟨I, rfl, EqX.rf, fun h9 => absurd h9 (fun h8 => ?_), fun _ => ⟨rfl, rfl⟩⟩
        obtain ⟨g1, g2, g3, g4⟩ := h8
        first | omega | exact c13 g2 | exact g3 c17 | exact c23 (Int32.not_lt.mp g4)
      · skip
        refine lv_iload_n hx hb dX5_append_20 rfl (lv_at hl 2 rfl) ?_
        refine lv_bipush (v := 12) hx hb dX5_append_21 (by decide) ?_
        refine lv_icmp_le (tgt := 28) hx hb dX5_append_23 (by decide) (fun c23 => ?_) (fun c23 => ?_)
        · skip
          have hV : secV T p1 p2 := ⟨by omega, c13, c17, Int32.not_lt.mpr c23⟩
          obtain ⟨a1, ha⟩ := inR_nat (n := 1000000) rfl hV.2.1
          obtain ⟨k1, hk⟩ := inR_nat (n := 12) rfl hV.2.2
          generalize p1.toNatClampNeg = a at a1 ha ⊢
          generalize p2.toNatClampNeg = k at k1 hk ⊢
          subst a1
          subst k1
          clear c13 c17 c23 er10
          refine lv_aload_n hx hb dX5_append_28 rfl (lv_at hl 0 rfl) ?_
          refine va_get (D := D) (T := TX5) (N := 5) hx hb hts jnX5 hown hK hP 2 (wd_2 y ad cap I J) rfl 0 (by decide) (hts _ fl_X5_9) (fun _ h9 => h9) rfl dX5_append_29 ?_
          refine lv_topi (fun v29 ev29 => ?_)
          obtain rfl : v29 = (nI (T 0 0)) := by
            rw [ev29]; exact hT.1.1
          refine lv_istore (lv' := [(4, .int (nI (T 0 0))), (0, .ref (ad 2)), (1, .int (nI a)), (2, .int (nI k)), (3, .int (nI q0))]) hx hb dX5_append_32 hl (by decide) rfl (fun ls hl => ?_)
          refine lv_aload_n hx hb dX5_append_34 rfl (lv_at hl 1 rfl) ?_
          refine va_get (D := D) (T := TX5) (N := 5) hx hb hts jnX5 hown hK hP 2 (wd_2 y ad cap I J) rfl 2 (by decide) (hts _ fl_X5_18) (fun _ h9 => h9) rfl dX5_append_35 ?_
          refine lv_iload hx hb dX5_append_38 (lv_at hl 0 rfl) ?_
          refine lv_iload_n hx hb dX5_append_40 rfl (lv_at hl 2 rfl) ?_
          refine va_iast (D := D) hx hb hK hP hD hS 3 0 (wd_3 y ad cap I J) rfl (vp_in_nI (by omega) (by omega)) dX5_append_41 (fun H locs hP hD hS => ?_)
          rw [nI_clamp (n := T 0 0) (by omega)] at hP hD
          rw [ws_3] at hP hD
          generalize eI41 : va_up I 3 (upd (I 3) (T 0 0) (nI a)) = I41 at hP hD
          refine lv_aload_n hx hb dX5_append_42 rfl (lv_at hl 1 rfl) ?_
          refine va_get (D := D) (T := TX5) (N := 5) hx hb hts jnX5 hown hK hP 2 (wd_2 y ad cap I41 J) rfl 3 (by decide) (hts _ fl_X5_22) (fun _ h9 => h9) rfl dX5_append_43 ?_
          refine lv_iload hx hb dX5_append_46 (lv_at hl 0 rfl) ?_
          refine lv_iconst (v := 1) hx hb dX5_append_48 (by decide) ?_
          refine lv_iload_n hx hb dX5_append_49 rfl (lv_at hl 3 rfl) ?_
          refine lv_ishl hx hb dX5_append_50 ?_
          refine lv_topi (fun v50 ev50 => ?_)
          obtain rfl : v50 = ((1 : Int32) <<< (nI k &&& 31)) := by
            exact ev50
          refine va_iast (D := D) hx hb hK hP hD hS 4 0 (wd_4 y ad cap I41 J) rfl (vp_in_nI (by omega) (by omega)) dX5_append_51 (fun H locs hP hD hS => ?_)
          rw [nI_clamp (n := T 0 0) (by omega)] at hP hD
          rw [ws_4] at hP hD
          generalize eI51 : va_up I41 4 (upd (I41 4) (T 0 0) ((1 : Int32) <<< (nI k &&& 31))) = I51 at hP hD
          refine lv_aload_n hx hb dX5_append_52 rfl (lv_at hl 1 rfl) ?_
          refine va_get (D := D) (T := TX5) (N := 5) hx hb hts jnX5 hown hK hP 2 (wd_2 y ad cap I51 J) rfl 4 (by decide) (hts _ fl_X5_25) (fun _ h9 => h9) rfl dX5_append_53 ?_
          refine lv_iload hx hb dX5_append_56 (lv_at hl 0 rfl) ?_
          refine lv_iload_n hx hb dX5_append_58 rfl (lv_at hl 4 rfl) ?_
          refine va_zast (D := D) hx hb hK hP hD hS 5 2 (wd_5 y ad cap I51 J) rfl (vp_in_nI (by omega) (by omega)) dX5_append_59 (fun H locs hP hD hS => ?_)
          rw [nI_clamp (n := T 0 0) (by omega)] at hP hD
          rw [nar01 hq0] at hP hD
          rw [ws_5] at hP hD
          generalize eI59 : va_up I51 5 (upd (I51 5) (T 0 0) (nI q0)) = I59 at hP hD
          refine lv_iload_n hx hb dX5_append_60 rfl (lv_at hl 4 rfl) ?_
          refine lv_if_eq (tgt := 74) hx hb dX5_append_61 (by decide) (fun c61 => ?_) (fun c61 => ?_)
          · skip
            refine lv_aload_n hx hb dX5_append_74 rfl (lv_at hl 1 rfl) ?_
            refine lv_dup hx hb dX5_append_75 rfl ?_
            refine va_get (D := D) (T := TX5) (N := 5) hx hb hts jnX5 hown hK hP 2 (wd_2 y ad cap I59 J) rfl 0 (by decide) (hts _ fl_X5_9) (fun _ h9 => h9) rfl dX5_append_76 ?_
            refine lv_topi (fun v76 ev76 => ?_)
            obtain rfl : v76 = (nI (T 0 0)) := by
              rw [ev76, ← eI59, ← eI51, ← eI41]; simpa [va_up, upd] using hT.1.1
            refine lv_iconst (v := 1) hx hb dX5_append_79 (by decide) ?_
            refine lv_iadd hx hb dX5_append_80 ?_
            refine lv_topi (fun v80 ev80 => ?_)
            obtain rfl : v80 = (nI ((T 0 0) + 1)) := by rw [ev80, show (1 : Int32) = nI 1 from rfl, nI_add]
            refine va_put (D := D) (T := TX5) (N := 5) (v := .int (nI ((T 0 0) + 1))) (ty := .int) hx hb hts jnX5 tyX5 tyX5_ok nmX5 hown hK hP hD hS 2 (wd_2 y ad cap I59 J) rfl 0 (by decide) (hts _ fl_X5_9) (fun _ h9 => h9) rfl (by decide +kernel) rfl rfl (Nat.le_of_ble_eq_true rfl) dX5_append_81 (fun H locs hP hD hS => ?_)
            rw [wp_2_0] at hP hD
            generalize eI81 : va_up I59 2 (upd (I59 2) 0 (nI ((T 0 0) + 1))) = I81 at hP hD
            refine lv_iload hx hb dX5_append_84 (lv_at hl 0 rfl) ?_
            refine W.iret (v := (nI (T 0 0))) hx hb hr (fun t ht hW => ⟨⟨_, (ad, cap, I81, J), rfl, ?_, by rw [ht]; exact hP, by show va_D (va_A (Wd y ad cap I J) s.heap.size) _; rw [hAe]; exact hD⟩, hS.F ht⟩) hS.2.2 dX5_append_86
            refine ⟨_, rfl, ?_, fun _ => ⟨rfl, RT1_addS (a := a) (k := k) (q := q0) hT hk eI41.symm eI51.symm eI59.symm (Or.inl ⟨(nI_z (by omega)).mp c61, rfl⟩) eI81.symm⟩, fun h9 => absurd hV h9⟩
            subst_vars
            refine EqX.up (EqX.up (EqX.up (EqX.up (EqX.rf) ?_) ?_) ?_) ?_ <;> decide
          · skip
            
            refine lv_aload_n hx hb dX5_append_64 rfl (lv_at hl 1 rfl) ?_
            refine lv_dup hx hb dX5_append_65 rfl ?_
            refine va_get (D := D) (T := TX5) (N := 5) hx hb hts jnX5 hown hK hP 2 (wd_2 y ad cap I59 J) rfl 1 (by decide) (hts _ fl_X5_15) (fun _ h9 => h9) rfl dX5_append_66 ?_
            refine lv_topi (fun v66 ev66 => ?_)
            obtain rfl : v66 = (nI (T 0 3)) := by
              rw [ev66, ← eI59, ← eI51, ← eI41]; simpa [va_up] using hT.1.2.2.2.1
            refine lv_iconst (v := 1) hx hb dX5_append_69 (by decide) ?_
            refine lv_iadd hx hb dX5_append_70 ?_
            refine lv_topi (fun v70 ev70 => ?_)
            obtain rfl : v70 = (nI ((T 0 3) + 1)) := by rw [ev70, show (1 : Int32) = nI 1 from rfl, nI_add]
            refine va_put (D := D) (T := TX5) (N := 5) (v := .int (nI ((T 0 3) + 1))) (ty := .int) hx hb hts jnX5 tyX5 tyX5_ok nmX5 hown hK hP hD hS 2 (wd_2 y ad cap I59 J) rfl 1 (by decide) (hts _ fl_X5_15) (fun _ h9 => h9) rfl (by decide +kernel) rfl rfl (Nat.le_of_ble_eq_true rfl) dX5_append_71 (fun H locs hP hD hS => ?_)
            rw [wp_2_1] at hP hD
            generalize eI71 : va_up I59 2 (upd (I59 2) 1 (nI ((T 0 3) + 1))) = I71 at hP hD
            refine lv_aload_n hx hb dX5_append_74 rfl (lv_at hl 1 rfl) ?_
            refine lv_dup hx hb dX5_append_75 rfl ?_
            refine va_get (D := D) (T := TX5) (N := 5) hx hb hts jnX5 hown hK hP 2 (wd_2 y ad cap I71 J) rfl 0 (by decide) (hts _ fl_X5_9) (fun _ h9 => h9) rfl dX5_append_76 ?_
            refine lv_topi (fun v76 ev76 => ?_)
            obtain rfl : v76 = (nI (T 0 0)) := by
              rw [ev76, ← eI71, ← eI59, ← eI51, ← eI41]; simpa [va_up, upd] using hT.1.1
            refine lv_iconst (v := 1) hx hb dX5_append_79 (by decide) ?_
            refine lv_iadd hx hb dX5_append_80 ?_
            refine lv_topi (fun v80 ev80 => ?_)
            obtain rfl : v80 = (nI ((T 0 0) + 1)) := by rw [ev80, show (1 : Int32) = nI 1 from rfl, nI_add]
            refine va_put (D := D) (T := TX5) (N := 5) (v := .int (nI ((T 0 0) + 1))) (ty := .int) hx hb hts jnX5 tyX5 tyX5_ok nmX5 hown hK hP hD hS 2 (wd_2 y ad cap I71 J) rfl 0 (by decide) (hts _ fl_X5_9) (fun _ h9 => h9) rfl (by decide +kernel) rfl rfl (Nat.le_of_ble_eq_true rfl) dX5_append_81 (fun H locs hP hD hS => ?_)
            rw [wp_2_0] at hP hD
            generalize eI81 : va_up I71 2 (upd (I71 2) 0 (nI ((T 0 0) + 1))) = I81 at hP hD
            refine lv_iload hx hb dX5_append_84 (lv_at hl 0 rfl) ?_
            refine W.iret (v := (nI (T 0 0))) hx hb hr (fun t ht hW => ⟨⟨_, (ad, cap, I81, J), rfl, ?_, by rw [ht]; exact hP, by show va_D (va_A (Wd y ad cap I J) s.heap.size) _; rw [hAe]; exact hD⟩, hS.F ht⟩) hS.2.2 dX5_append_86
            refine ⟨_, rfl, ?_, fun _ => ⟨rfl, RT1_addS (a := a) (k := k) (q := q0) hT hk eI41.symm eI51.symm eI59.symm (Or.inr ⟨by have := mt (nI_z (by omega)).mpr c61; omega, eI71.symm⟩) eI81.symm⟩, fun h9 => absurd hV h9⟩
            subst_vars
            refine EqX.up (EqX.up (EqX.up (EqX.up (EqX.up (EqX.rf) ?_) ?_) ?_) ?_) ?_ <;> decide
        · skip
          refine lv_iconst (v := (-1)) hx hb dX5_append_26 (by decide) ?_
          refine W.iret (v := (-1)) hx hb hr (fun t ht hW => ⟨⟨_, (ad, cap, I, J), rfl, ?_, by rw [ht]; exact hP, by show va_D (va_A (Wd y ad cap I J) s.heap.size) _; rw [hAe]; exact hD⟩, hS.F ht⟩) hS.2.2 dX5_append_27
          refine ⟨I, rfl, EqX.rf, fun h9 => absurd h9 (fun h8 => ?_), fun _ => ⟨rfl, rfl⟩⟩
          obtain ⟨g1, g2, g3, g4⟩ := h8
          first | omega | exact c13 g2 | exact g3 c17 | exact c23 (Int32.not_lt.mp g4)
set_option maxHeartbeats 4000000 in
set_option maxRecDepth 100000 in
theorem c_X3_append (l : Launch) (D : va_G) (y : Nat → ClassId) (ad : Nat → Nat) (cap : Nat → Nat) (I : Nat → Nat → Int32) (J : Nat → Nat → Int64) (sz : Nat) {T : Nat → Nat → Nat} (hT : RT1 I T) (hW : WF T) (s0 f0 : Nat) : Met l yX3_append [.code yX3_append cX3_append 4 (some .int)] ({ frames := 0, cells := 0, slots := 0, locals := 0 }) (va_Pc [.ref (ad 6), .int (nI s0), .int (nI f0)] (PW D y (Wd y ad cap I J) sz)) (va_Qi (fun (r : Int32) (u : St4) => ∃ I', u = (ad, cap, I', J) ∧ EqX [6, 7, 8] I I' ∧ (T 0 1 < 60 → r = nI (T 0 1) ∧ RT1 I' (addL T s0 f0)) ∧ (¬ T 0 1 < 60 → r = -1 ∧ I' = I)) (Aft D (Wt y) (Wd y ad cap I J) sz) (va_A (Wd y ad cap I J) sz)) 0 0 (va_A (Wd y ad cap I J) sz) := by
  refine Met.ofW (cc := cX3_append) (maxL := 4) (ret := (some .int)) (by decide) rfl ?_
  intro p e s m args below meth c s₁ B hml hv
  obtain ⟨rfl, rfl, hP, hD0, hO⟩ := hv
  have hx := B.exec
  have hb := B.bytes
  have hr := B.returns
  have hown : s.vm.findClass RX3 = some m.cls := findClass_of_methodNamed B.named
  have hlocks := B.notSynchronized
  have hK := hO.1
  have hts : ∀ w ∈ lw_E, w.before ([.ref (ad 6), .int (nI s0), .int (nI f0)] : List Value).toArray s = true := fun w h => hO.2 w h _
  clear B
  have hD := hD0.self (sz := s.heap.size)
  generalize hAe : va_A (Wd y ad cap I J) s.heap.size = A at hD ⊢
  have hA : ∀ q : Nat, s.heap.size ≤ q → A q := fun q h => by rw [← hAe]; exact Or.inr h
  have hS : va_S A s.heap s.heap [] := va_S.rf
  have hl := lv_entry ([.ref (ad 6), .int (nI s0), .int (nI f0)]) (n := 4) (Nat.le_of_ble_eq_true rfl)
  rw [lg_entry_eq]
  generalize (lg_sl ([.ref (ad 6), .int (nI s0), .int (nI f0)]) ++ List.replicate (4 - (lg_sl ([.ref (ad 6), .int (nI s0), .int (nI f0)])).length) Slot.unset).toArray = ls at hl ⊢
  have hl : lv_has ls 4 [(0, .ref (ad 6)), (1, .int (nI s0)), (2, .int (nI f0))] := hl
  have hW0 := hW
  obtain ⟨⟨w1, w2, w3, w4, w5, w6, w7⟩, wS, wL, wB, wK, wTk, wT0⟩ := hW
  refine lv_aload_n hx hb dX3_append_0 rfl (lv_at hl 0 rfl) ?_
  refine va_get (D := D) (T := TX3) (N := 3) hx hb hts jnX3 hown hK hP 6 (wd_6 y ad cap I J) rfl 0 (by decide) (hts _ fl_X3_9) (fun _ h9 => h9) rfl dX3_append_1 ?_
  refine lv_topi (fun v1 ev1 => ?_)
  obtain rfl : v1 = (nI (T 0 1)) := by
    rw [ev1]; exact hT.1.2.1
  refine lv_bipush (v := 60) hx hb dX3_append_4 (by decide) ?_
  refine lv_icmp_lt (tgt := 11) hx hb dX3_append_6 (by decide) (fun c6 => ?_) (fun c6 => ?_)
  · skip
    have c6 := (nI_ltI (a := (T 0 1)) (b := 60) (by omega) (by omega)).mp c6
    refine lv_aload_n hx hb dX3_append_11 rfl (lv_at hl 0 rfl) ?_
    refine va_get (D := D) (T := TX3) (N := 3) hx hb hts jnX3 hown hK hP 6 (wd_6 y ad cap I J) rfl 0 (by decide) (hts _ fl_X3_9) (fun _ h9 => h9) rfl dX3_append_12 ?_
    refine lv_topi (fun v12 ev12 => ?_)
    obtain rfl : v12 = (nI (T 0 1)) := by
      rw [ev12]; exact hT.1.2.1
    refine lv_istore_n (lv' := [(3, .int (nI (T 0 1))), (0, .ref (ad 6)), (1, .int (nI s0)), (2, .int (nI f0))]) hx hb dX3_append_15 rfl hl (by decide) rfl (fun ls hl => ?_)
    refine lv_aload_n hx hb dX3_append_16 rfl (lv_at hl 1 rfl) ?_
    refine va_get (D := D) (T := TX3) (N := 3) hx hb hts jnX3 hown hK hP 6 (wd_6 y ad cap I J) rfl 1 (by decide) (hts _ fl_X3_15) (fun _ h9 => h9) rfl dX3_append_17 ?_
    refine lv_iload_n hx hb dX3_append_20 rfl (lv_at hl 0 rfl) ?_
    refine lv_iload_n hx hb dX3_append_21 rfl (lv_at hl 2 rfl) ?_
    refine va_iast (D := D) hx hb hK hP hD hS 7 0 (wd_7 y ad cap I J) rfl (vp_in_nI (by omega) (by omega)) dX3_append_22 (fun H locs hP hD hS => ?_)
    rw [nI_clamp (n := T 0 1) (by omega)] at hP hD
    rw [ws_7] at hP hD
    generalize eI22 : va_up I 7 (upd (I 7) (T 0 1) (nI s0)) = I22 at hP hD
    refine lv_aload_n hx hb dX3_append_23 rfl (lv_at hl 1 rfl) ?_
    refine va_get (D := D) (T := TX3) (N := 3) hx hb hts jnX3 hown hK hP 6 (wd_6 y ad cap I22 J) rfl 2 (by decide) (hts _ fl_X3_19) (fun _ h9 => h9) rfl dX3_append_24 ?_
    refine lv_iload_n hx hb dX3_append_27 rfl (lv_at hl 0 rfl) ?_
    refine lv_iload_n hx hb dX3_append_28 rfl (lv_at hl 3 rfl) ?_
    refine va_iast (D := D) hx hb hK hP hD hS 8 0 (wd_8 y ad cap I22 J) rfl (vp_in_nI (by omega) (by omega)) dX3_append_29 (fun H locs hP hD hS => ?_)
    rw [nI_clamp (n := T 0 1) (by omega)] at hP hD
    rw [ws_8] at hP hD
    generalize eI29 : va_up I22 8 (upd (I22 8) (T 0 1) (nI f0)) = I29 at hP hD
    refine lv_aload_n hx hb dX3_append_30 rfl (lv_at hl 1 rfl) ?_
    refine lv_dup hx hb dX3_append_31 rfl ?_
    refine va_get (D := D) (T := TX3) (N := 3) hx hb hts jnX3 hown hK hP 6 (wd_6 y ad cap I29 J) rfl 0 (by decide) (hts _ fl_X3_9) (fun _ h9 => h9) rfl dX3_append_32 ?_
    refine lv_topi (fun v32 ev32 => ?_)
    obtain rfl : v32 = (nI (T 0 1)) := by
      rw [ev32, ← eI29, ← eI22]; simpa [va_up] using hT.1.2.1
    refine lv_iconst (v := 1) hx hb dX3_append_35 (by decide) ?_
    refine lv_iadd hx hb dX3_append_36 ?_
    refine lv_topi (fun v36 ev36 => ?_)
    obtain rfl : v36 = (nI ((T 0 1) + 1)) := by rw [ev36, show (1 : Int32) = nI 1 from rfl, nI_add]
    refine va_put (D := D) (T := TX3) (N := 3) (v := .int (nI ((T 0 1) + 1))) (ty := .int) hx hb hts jnX3 tyX3 tyX3_ok nmX3 hown hK hP hD hS 6 (wd_6 y ad cap I29 J) rfl 0 (by decide) (hts _ fl_X3_9) (fun _ h9 => h9) rfl (by decide +kernel) rfl rfl (Nat.le_of_ble_eq_true rfl) dX3_append_37 (fun H locs hP hD hS => ?_)
    rw [wp_6_0] at hP hD
    generalize eI37 : va_up I29 6 (upd (I29 6) 0 (nI ((T 0 1) + 1))) = I37 at hP hD
    refine lv_iload_n hx hb dX3_append_40 rfl (lv_at hl 0 rfl) ?_
    refine W.iret (v := (nI (T 0 1))) hx hb hr (fun t ht hW => ⟨⟨_, (ad, cap, I37, J), rfl, ?_, by rw [ht]; exact hP, by show va_D (va_A (Wd y ad cap I J) s.heap.size) _; rw [hAe]; exact hD⟩, hS.F ht⟩) hS.2.2 dX3_append_41
    refine ⟨_, rfl, ?_, fun _ => ⟨rfl, RT1_addL (s := s0) (f := f0) hT eI22.symm eI29.symm eI37.symm⟩, fun h9 => absurd c6 h9⟩
    subst_vars
    refine EqX.up (EqX.up (EqX.up (EqX.rf) ?_) ?_) ?_ <;> decide
  · skip
    have c6 := mt (nI_ltI (a := (T 0 1)) (b := 60) (by omega) (by omega)).mpr c6
    refine lv_iconst (v := (-1)) hx hb dX3_append_9 (by decide) ?_
    refine W.iret (v := (-1)) hx hb hr (fun t ht hW => ⟨⟨_, (ad, cap, I, J), rfl, ?_, by rw [ht]; exact hP, by show va_D (va_A (Wd y ad cap I J) s.heap.size) _; rw [hAe]; exact hD⟩, hS.F ht⟩) hS.2.2 dX3_append_10
    exact ⟨I, rfl, EqX.rf, fun h9 => absurd h9 c6, fun _ => ⟨rfl, rfl⟩⟩
set_option maxHeartbeats 4000000 in
set_option maxRecDepth 100000 in
theorem c_X1_append (l : Launch) (D : va_G) (y : Nat → ClassId) (ad : Nat → Nat) (cap : Nat → Nat) (I : Nat → Nat → Int32) (J : Nat → Nat → Int64) (sz : Nat) {T : Nat → Nat → Nat} (hT : RT1 I T) (hW : WF T) (s0 f0 k0 t0 : Nat) : Met l yX1_append [.code yX1_append cX1_append 6 (some .int)] ({ frames := 0, cells := 0, slots := 0, locals := 0 }) (va_Pc [.ref (ad 12), .int (nI s0), .int (nI f0), .int (nI k0), .int (nI t0)] (PW D y (Wd y ad cap I J) sz)) (va_Qi (fun (r : Int32) (u : St4) => ∃ I', u = (ad, cap, I', J) ∧ EqX [12, 13, 14, 15, 16] I I' ∧ (T 0 2 < 200 → r = nI (T 0 2) ∧ RT1 I' (addB T s0 f0 k0 t0)) ∧ (¬ T 0 2 < 200 → r = -1 ∧ I' = I)) (Aft D (Wt y) (Wd y ad cap I J) sz) (va_A (Wd y ad cap I J) sz)) 0 0 (va_A (Wd y ad cap I J) sz) := by
  refine Met.ofW (cc := cX1_append) (maxL := 6) (ret := (some .int)) (by decide) rfl ?_
  intro p e s m args below meth c s₁ B hml hv
  obtain ⟨rfl, rfl, hP, hD0, hO⟩ := hv
  have hx := B.exec
  have hb := B.bytes
  have hr := B.returns
  have hown : s.vm.findClass RX1 = some m.cls := findClass_of_methodNamed B.named
  have hlocks := B.notSynchronized
  have hK := hO.1
  have hts : ∀ w ∈ lw_E, w.before ([.ref (ad 12), .int (nI s0), .int (nI f0), .int (nI k0), .int (nI t0)] : List Value).toArray s = true := fun w h => hO.2 w h _
  clear B
  have hD := hD0.self (sz := s.heap.size)
  generalize hAe : va_A (Wd y ad cap I J) s.heap.size = A at hD ⊢
  have hA : ∀ q : Nat, s.heap.size ≤ q → A q := fun q h => by rw [← hAe]; exact Or.inr h
  have hS : va_S A s.heap s.heap [] := va_S.rf
  have hl := lv_entry ([.ref (ad 12), .int (nI s0), .int (nI f0), .int (nI k0), .int (nI t0)]) (n := 6) (Nat.le_of_ble_eq_true rfl)
  rw [lg_entry_eq]
  generalize (lg_sl ([.ref (ad 12), .int (nI s0), .int (nI f0), .int (nI k0), .int (nI t0)]) ++ List.replicate (6 - (lg_sl ([.ref (ad 12), .int (nI s0), .int (nI f0), .int (nI k0), .int (nI t0)])).length) Slot.unset).toArray = ls at hl ⊢
  have hl : lv_has ls 6 [(0, .ref (ad 12)), (1, .int (nI s0)), (2, .int (nI f0)), (3, .int (nI k0)), (4, .int (nI t0))] := hl
  have hW0 := hW
  obtain ⟨⟨w1, w2, w3, w4, w5, w6, w7⟩, wS, wL, wB, wK, wTk, wT0⟩ := hW
  refine lv_aload_n hx hb dX1_append_0 rfl (lv_at hl 0 rfl) ?_
  refine va_get (D := D) (T := TX1) (N := 5) hx hb hts jnX1 hown hK hP 12 (wd_12 y ad cap I J) rfl 0 (by decide) (hts _ fl_X1_9) (fun _ h9 => h9) rfl dX1_append_1 ?_
  refine lv_topi (fun v1 ev1 => ?_)
  obtain rfl : v1 = (nI (T 0 2)) := by
    rw [ev1]; exact hT.1.2.2.1
  refine lv_sipush (v := 200) hx hb dX1_append_4 (by decide) ?_
  refine lv_icmp_lt (tgt := 12) hx hb dX1_append_7 (by decide) (fun c7 => ?_) (fun c7 => ?_)
  · skip
    have c7 := (nI_ltI (a := (T 0 2)) (b := 200) (by omega) (by omega)).mp c7
    refine lv_aload_n hx hb dX1_append_12 rfl (lv_at hl 0 rfl) ?_
    refine va_get (D := D) (T := TX1) (N := 5) hx hb hts jnX1 hown hK hP 12 (wd_12 y ad cap I J) rfl 0 (by decide) (hts _ fl_X1_9) (fun _ h9 => h9) rfl dX1_append_13 ?_
    refine lv_topi (fun v13 ev13 => ?_)
    obtain rfl : v13 = (nI (T 0 2)) := by
      rw [ev13]; exact hT.1.2.2.1
    refine lv_istore (lv' := [(5, .int (nI (T 0 2))), (0, .ref (ad 12)), (1, .int (nI s0)), (2, .int (nI f0)), (3, .int (nI k0)), (4, .int (nI t0))]) hx hb dX1_append_16 hl (by decide) rfl (fun ls hl => ?_)
    refine lv_aload_n hx hb dX1_append_18 rfl (lv_at hl 1 rfl) ?_
    refine va_get (D := D) (T := TX1) (N := 5) hx hb hts jnX1 hown hK hP 12 (wd_12 y ad cap I J) rfl 1 (by decide) (hts _ fl_X1_15) (fun _ h9 => h9) rfl dX1_append_19 ?_
    refine lv_iload hx hb dX1_append_22 (lv_at hl 0 rfl) ?_
    refine lv_iload_n hx hb dX1_append_24 rfl (lv_at hl 2 rfl) ?_
    refine va_iast (D := D) hx hb hK hP hD hS 13 0 (wd_13 y ad cap I J) rfl (vp_in_nI (by omega) (by omega)) dX1_append_25 (fun H locs hP hD hS => ?_)
    rw [nI_clamp (n := T 0 2) (by omega)] at hP hD
    rw [ws_13] at hP hD
    generalize eI25 : va_up I 13 (upd (I 13) (T 0 2) (nI s0)) = I25 at hP hD
    refine lv_aload_n hx hb dX1_append_26 rfl (lv_at hl 1 rfl) ?_
    refine va_get (D := D) (T := TX1) (N := 5) hx hb hts jnX1 hown hK hP 12 (wd_12 y ad cap I25 J) rfl 2 (by decide) (hts _ fl_X1_19) (fun _ h9 => h9) rfl dX1_append_27 ?_
    refine lv_iload hx hb dX1_append_30 (lv_at hl 0 rfl) ?_
    refine lv_iload_n hx hb dX1_append_32 rfl (lv_at hl 3 rfl) ?_
    refine va_iast (D := D) hx hb hK hP hD hS 14 0 (wd_14 y ad cap I25 J) rfl (vp_in_nI (by omega) (by omega)) dX1_append_33 (fun H locs hP hD hS => ?_)
    rw [nI_clamp (n := T 0 2) (by omega)] at hP hD
    rw [ws_14] at hP hD
    generalize eI33 : va_up I25 14 (upd (I25 14) (T 0 2) (nI f0)) = I33 at hP hD
    refine lv_aload_n hx hb dX1_append_34 rfl (lv_at hl 1 rfl) ?_
    refine va_get (D := D) (T := TX1) (N := 5) hx hb hts jnX1 hown hK hP 12 (wd_12 y ad cap I33 J) rfl 3 (by decide) (hts _ fl_X1_22) (fun _ h9 => h9) rfl dX1_append_35 ?_
    refine lv_iload hx hb dX1_append_38 (lv_at hl 0 rfl) ?_
    refine lv_iload_n hx hb dX1_append_40 rfl (lv_at hl 4 rfl) ?_
    refine va_iast (D := D) hx hb hK hP hD hS 15 0 (wd_15 y ad cap I33 J) rfl (vp_in_nI (by omega) (by omega)) dX1_append_41 (fun H locs hP hD hS => ?_)
    rw [nI_clamp (n := T 0 2) (by omega)] at hP hD
    rw [ws_15] at hP hD
    generalize eI41 : va_up I33 15 (upd (I33 15) (T 0 2) (nI k0)) = I41 at hP hD
    refine lv_aload_n hx hb dX1_append_42 rfl (lv_at hl 1 rfl) ?_
    refine va_get (D := D) (T := TX1) (N := 5) hx hb hts jnX1 hown hK hP 12 (wd_12 y ad cap I41 J) rfl 4 (by decide) (hts _ fl_X1_25) (fun _ h9 => h9) rfl dX1_append_43 ?_
    refine lv_iload hx hb dX1_append_46 (lv_at hl 0 rfl) ?_
    refine lv_iload hx hb dX1_append_48 (lv_at hl 5 rfl) ?_
    refine va_iast (D := D) hx hb hK hP hD hS 16 0 (wd_16 y ad cap I41 J) rfl (vp_in_nI (by omega) (by omega)) dX1_append_50 (fun H locs hP hD hS => ?_)
    rw [nI_clamp (n := T 0 2) (by omega)] at hP hD
    rw [ws_16] at hP hD
    generalize eI50 : va_up I41 16 (upd (I41 16) (T 0 2) (nI t0)) = I50 at hP hD
    refine lv_aload_n hx hb dX1_append_51 rfl (lv_at hl 1 rfl) ?_
    refine lv_dup hx hb dX1_append_52 rfl ?_
    refine va_get (D := D) (T := TX1) (N := 5) hx hb hts jnX1 hown hK hP 12 (wd_12 y ad cap I50 J) rfl 0 (by decide) (hts _ fl_X1_9) (fun _ h9 => h9) rfl dX1_append_53 ?_
    refine lv_topi (fun v53 ev53 => ?_)
    obtain rfl : v53 = (nI (T 0 2)) := by
      rw [ev53, ← eI50, ← eI41, ← eI33, ← eI25]; simpa [va_up] using hT.1.2.2.1
    refine lv_iconst (v := 1) hx hb dX1_append_56 (by decide) ?_
    refine lv_iadd hx hb dX1_append_57 ?_
    refine lv_topi (fun v57 ev57 => ?_)
    obtain rfl : v57 = (nI ((T 0 2) + 1)) := by rw [ev57, show (1 : Int32) = nI 1 from rfl, nI_add]
    refine va_put (D := D) (T := TX1) (N := 5) (v := .int (nI ((T 0 2) + 1))) (ty := .int) hx hb hts jnX1 tyX1 tyX1_ok nmX1 hown hK hP hD hS 12 (wd_12 y ad cap I50 J) rfl 0 (by decide) (hts _ fl_X1_9) (fun _ h9 => h9) rfl (by decide +kernel) rfl rfl (Nat.le_of_ble_eq_true rfl) dX1_append_58 (fun H locs hP hD hS => ?_)
    rw [wp_12_0] at hP hD
    generalize eI58 : va_up I50 12 (upd (I50 12) 0 (nI ((T 0 2) + 1))) = I58 at hP hD
    refine lv_iload hx hb dX1_append_61 (lv_at hl 0 rfl) ?_
    refine W.iret (v := (nI (T 0 2))) hx hb hr (fun t ht hW => ⟨⟨_, (ad, cap, I58, J), rfl, ?_, by rw [ht]; exact hP, by show va_D (va_A (Wd y ad cap I J) s.heap.size) _; rw [hAe]; exact hD⟩, hS.F ht⟩) hS.2.2 dX1_append_63
    refine ⟨_, rfl, ?_, fun _ => ⟨rfl, RT1_addB (s := s0) (f := f0) (k := k0) (t := t0) hT eI25.symm eI33.symm eI41.symm eI50.symm eI58.symm⟩, fun h9 => absurd c7 h9⟩
    subst_vars
    refine EqX.up (EqX.up (EqX.up (EqX.up (EqX.up (EqX.rf) ?_) ?_) ?_) ?_) ?_ <;> decide
  · skip
    have c7 := mt (nI_ltI (a := (T 0 2)) (b := 200) (by omega) (by omega)).mpr c7
    refine lv_iconst (v := (-1)) hx hb dX1_append_10 (by decide) ?_
    refine W.iret (v := (-1)) hx hb hr (fun t ht hW => ⟨⟨_, (ad, cap, I, J), rfl, ?_, by rw [ht]; exact hP, by show va_D (va_A (Wd y ad cap I J) s.heap.size) _; rw [hAe]; exact hD⟩, hS.F ht⟩) hS.2.2 dX1_append_11
    exact ⟨I, rfl, EqX.rf, fun h9 => absurd h9 c7, fun _ => ⟨rfl, rfl⟩⟩
def powR (p : Int32) : Int32 := if p = 1 then 0 else if p = 2 then 1 else if p = 4 then 2 else if p = 8 then 3 else -1
def pw (p : Int32) : Nat := if p = 1 then 0 else if p = 2 then 1 else if p = 4 then 2 else 3
theorem powR_no {p : Int32} (h : p.toInt < 1 ∨ 8 < p.toInt) : powR p = -1 := by
  unfold powR
  rw [if_neg (fun e => by rw [e] at h; exact absurd h (by decide)), if_neg (fun e => by rw [e] at h; exact absurd h (by decide)), if_neg (fun e => by rw [e] at h; exact absurd h (by decide)), if_neg (fun e => by rw [e] at h; exact absurd h (by decide))]
theorem powR_neg {p : Int32} : powR p = -1 ↔ ¬ (p = 1 ∨ p = 2 ∨ p = 4 ∨ p = 8) := by
  unfold powR
  split
  · rename_i h
    simp [h]
  · split
    · rename_i h
      simp [h]
    · split
      · rename_i h
        simp [h]
      · split
        · rename_i h
          simp [h]
        · rename_i h1 h2 h3 h4
          simp [h1, h2, h3, h4]
theorem powR_pw {p : Int32} (h : p = 1 ∨ p = 2 ∨ p = 4 ∨ p = 8) : powR p = nI (pw p) ∧ pw p ≤ 3 := by
  rcases h with rfl | rfl | rfl | rfl <;> decide
set_option maxHeartbeats 4000000 in
set_option maxRecDepth 100000 in
theorem c_X2_powerOf (l : Launch) (D : va_G) (y : Nat → ClassId) {ws : va_W} (p0 : Int32) : Met l yX2_powerOf [.code yX2_powerOf cX2_powerOf 1 (some .int)] ({ frames := 0, cells := 0, slots := 0, locals := 0 }) (va_Pc [.int p0] (PR D y ws)) (vp_Si (fun r => r = powR p0)) 0 0 (fun _ => False) := by
  refine Met.ofW (cc := cX2_powerOf) (maxL := 1) (ret := (some .int)) (by decide) rfl ?_
  intro p e s m args below meth c s₁ B hml hv
  obtain ⟨rfl, hP, hO⟩ := hv
  have hx := B.exec
  have hb := B.bytes
  have hr := B.returns
  have hown : s.vm.findClass RX2 = some m.cls := findClass_of_methodNamed B.named
  have hlocks := B.notSynchronized
  have hK := hO.1
  have hts : ∀ w ∈ lw_E, w.before ([.int p0] : List Value).toArray s = true := fun w h => hO.2 w h _
  clear B
  have hl := lv_entry ([.int p0]) (n := 1) (Nat.le_of_ble_eq_true rfl)
  rw [lg_entry_eq]
  generalize (lg_sl ([.int p0]) ++ List.replicate (1 - (lg_sl ([.int p0])).length) Slot.unset).toArray = ls at hl ⊢
  have hl : lv_has ls 1 [(0, .int p0)] := hl
  refine lv_iload_n hx hb dX2_powerOf_0 rfl (lv_at hl 0 rfl) ?_
  by_cases hsw : p0.toInt < 1 ∨ 8 < p0.toInt
  · skip
    refine lv_tableOut (tgt := 56) hx hb dX2_powerOf_1 hsw (by decide) ?_
    refine lv_iconst (v := (-1)) hx hb dX2_powerOf_56 (by decide) ?_
    refine W.iret (v := (-1)) hx hb hr (fun t ht hW => ⟨_, rfl, ?_, ht⟩) (fun _ h => nomatch h) dX2_powerOf_57
    first | decide | exact (powR_no hsw).symm
  · skip
    have hsw2 : p0 = 1 ∨ p0 = 2 ∨ p0 = 3 ∨ p0 = 4 ∨ p0 = 5 ∨ p0 = 6 ∨ p0 = 7 ∨ p0 = 8 := by
      have h1 : p0.toInt = 1 ∨ p0.toInt = 2 ∨ p0.toInt = 3 ∨ p0.toInt = 4 ∨ p0.toInt = 5 ∨ p0.toInt = 6 ∨ p0.toInt = 7 ∨ p0.toInt = 8 := by omega
      rcases h1 with h1 | h1 | h1 | h1 | h1 | h1 | h1 | h1
      · exact Or.inl (Int32.toInt_inj.mp h1)
      · exact Or.inr (Or.inl (Int32.toInt_inj.mp h1))
      · exact Or.inr (Or.inr (Or.inl (Int32.toInt_inj.mp h1)))
      · exact Or.inr (Or.inr (Or.inr (Or.inl (Int32.toInt_inj.mp h1))))
      · exact Or.inr (Or.inr (Or.inr (Or.inr (Or.inl (Int32.toInt_inj.mp h1)))))
      · exact Or.inr (Or.inr (Or.inr (Or.inr (Or.inr (Or.inl (Int32.toInt_inj.mp h1))))))
      · exact Or.inr (Or.inr (Or.inr (Or.inr (Or.inr (Or.inr (Or.inl (Int32.toInt_inj.mp h1)))))))
      · exact Or.inr (Or.inr (Or.inr (Or.inr (Or.inr (Or.inr (Or.inr (Int32.toInt_inj.mp h1)))))))
    rcases hsw2 with hsw3 | hsw3 | hsw3 | hsw3 | hsw3 | hsw3 | hsw3 | hsw3
    · skip
      subst hsw3
      refine lv_tableIn (off := 47) (tgt := 48) hx hb dX2_powerOf_1 (by decide) (by decide) rfl (by decide) ?_
      refine lv_iconst (v := 0) hx hb dX2_powerOf_48 (by decide) ?_
      refine W.iret (v := 0) hx hb hr (fun t ht hW => ⟨_, rfl, ?_, ht⟩) (fun _ h => nomatch h) dX2_powerOf_49
      first | decide | exact (powR_no hsw).symm
    · skip
      subst hsw3
      refine lv_tableIn (off := 49) (tgt := 50) hx hb dX2_powerOf_1 (by decide) (by decide) rfl (by decide) ?_
      refine lv_iconst (v := 1) hx hb dX2_powerOf_50 (by decide) ?_
      refine W.iret (v := 1) hx hb hr (fun t ht hW => ⟨_, rfl, ?_, ht⟩) (fun _ h => nomatch h) dX2_powerOf_51
      first | decide | exact (powR_no hsw).symm
    · skip
      subst hsw3
      refine lv_tableIn (off := 55) (tgt := 56) hx hb dX2_powerOf_1 (by decide) (by decide) rfl (by decide) ?_
      refine lv_iconst (v := (-1)) hx hb dX2_powerOf_56 (by decide) ?_
      refine W.iret (v := (-1)) hx hb hr (fun t ht hW => ⟨_, rfl, ?_, ht⟩) (fun _ h => nomatch h) dX2_powerOf_57
      first | decide | exact (powR_no hsw).symm
    · skip
      subst hsw3
      refine lv_tableIn (off := 51) (tgt := 52) hx hb dX2_powerOf_1 (by decide) (by decide) rfl (by decide) ?_
      refine lv_iconst (v := 2) hx hb dX2_powerOf_52 (by decide) ?_
      refine W.iret (v := 2) hx hb hr (fun t ht hW => ⟨_, rfl, ?_, ht⟩) (fun _ h => nomatch h) dX2_powerOf_53
      first | decide | exact (powR_no hsw).symm
    · skip
      subst hsw3
      refine lv_tableIn (off := 55) (tgt := 56) hx hb dX2_powerOf_1 (by decide) (by decide) rfl (by decide) ?_
      refine lv_iconst (v := (-1)) hx hb dX2_powerOf_56 (by decide) ?_
      refine W.iret (v := (-1)) hx hb hr (fun t ht hW => ⟨_, rfl, ?_, ht⟩) (fun _ h => nomatch h) dX2_powerOf_57
      first | decide | exact (powR_no hsw).symm
    · skip
      subst hsw3
      refine lv_tableIn (off := 55) (tgt := 56) hx hb dX2_powerOf_1 (by decide) (by decide) rfl (by decide) ?_
      refine lv_iconst (v := (-1)) hx hb dX2_powerOf_56 (by decide) ?_
      refine W.iret (v := (-1)) hx hb hr (fun t ht hW => ⟨_, rfl, ?_, ht⟩) (fun _ h => nomatch h) dX2_powerOf_57
      first | decide | exact (powR_no hsw).symm
    · skip
      subst hsw3
      refine lv_tableIn (off := 55) (tgt := 56) hx hb dX2_powerOf_1 (by decide) (by decide) rfl (by decide) ?_
      refine lv_iconst (v := (-1)) hx hb dX2_powerOf_56 (by decide) ?_
      refine W.iret (v := (-1)) hx hb hr (fun t ht hW => ⟨_, rfl, ?_, ht⟩) (fun _ h => nomatch h) dX2_powerOf_57
      first | decide | exact (powR_no hsw).symm
    · skip
      subst hsw3
      refine lv_tableIn (off := 53) (tgt := 54) hx hb dX2_powerOf_1 (by decide) (by decide) rfl (by decide) ?_
      refine lv_iconst (v := 3) hx hb dX2_powerOf_54 (by decide) ?_
      refine W.iret (v := 3) hx hb hr (fun t ht hW => ⟨_, rfl, ?_, ht⟩) (fun _ h => nomatch h) dX2_powerOf_55
      first | decide | exact (powR_no hsw).symm
set_option maxHeartbeats 4000000 in
set_option maxRecDepth 100000 in
theorem c_X2_tell (l : Launch) (D : va_G) (y : Nat → ClassId) (ad : Nat → Nat) (cap : Nat → Nat) (I : Nat → Nat → Int32) (J : Nat → Nat → Int64) (sz : Nat) {T : Nat → Nat → Nat} (hT : RT1 I T) (hW : WF T) (p1 p2 p3 : Int32) : Met l yX2_tell [.code yX2_tell cX2_tell 5 (some .boolean)] ({ frames := 1, cells := 0, slots := 0, locals := 20 }) (va_Pc [.ref (ad 9), .int p1, .int p2, .int p3] (PW D y (Wd y ad cap I J) sz)) (va_Qi (fun (r : Int32) (u : St4) => ∃ I', u = (ad, cap, I', J) ∧ EqX [10, 11] I I' ∧ (kndV p1 p2 p3 → r = 1 ∧ RT1 I' (addK T p1.toNatClampNeg (pw p2) p3.toNatClampNeg)) ∧ (¬ kndV p1 p2 p3 → r = 0 ∧ I' = I)) (Aft D (Wt y) (Wd y ad cap I J) sz) (va_A (Wd y ad cap I J) sz)) 0 0 (va_A (Wd y ad cap I J) sz) := by
  refine Met.ofW (cc := cX2_tell) (maxL := 5) (ret := (some .boolean)) (by decide) rfl ?_
  intro p e s m args below meth c s₁ B hml hv
  obtain ⟨rfl, rfl, hP, hD0, hO⟩ := hv
  have hx := B.exec
  have hb := B.bytes
  have hr := B.returns
  have hown : s.vm.findClass RX2 = some m.cls := findClass_of_methodNamed B.named
  have hlocks := B.notSynchronized
  have hK := hO.1
  have hts : ∀ w ∈ lw_E, w.before ([.ref (ad 9), .int p1, .int p2, .int p3] : List Value).toArray s = true := fun w h => hO.2 w h _
  clear B
  have hD := hD0.self (sz := s.heap.size)
  generalize hAe : va_A (Wd y ad cap I J) s.heap.size = A at hD ⊢
  have hA : ∀ q : Nat, s.heap.size ≤ q → A q := fun q h => by rw [← hAe]; exact Or.inr h
  have hS : va_S A s.heap s.heap [] := va_S.rf
  have hl := lv_entry ([.ref (ad 9), .int p1, .int p2, .int p3]) (n := 5) (Nat.le_of_ble_eq_true rfl)
  rw [lg_entry_eq]
  generalize (lg_sl ([.ref (ad 9), .int p1, .int p2, .int p3]) ++ List.replicate (5 - (lg_sl ([.ref (ad 9), .int p1, .int p2, .int p3])).length) Slot.unset).toArray = ls at hl ⊢
  have hl : lv_has ls 5 [(0, .ref (ad 9)), (1, .int p1), (2, .int p2), (3, .int p3)] := hl
  have hW0 := hW
  obtain ⟨⟨w1, w2, w3, w4, w5, w6, w7⟩, wS, wL, wB, wK, wTk, wT0⟩ := hW
  refine lv_iload_n hx hb dX2_tell_0 rfl (lv_at hl 2 rfl) ?_
  refine rk_i (run_s (As := [.int p2]) (rest := []) hx hb hml hown hO.2 (c_X2_powerOf l D y p2) k_X2_powerOf ml_X2_18 ⟨rfl, rfl⟩ ⟨Nat.le_of_ble_eq_true rfl, Nat.le_of_ble_eq_true rfl⟩ (pre_SR hO hP) rfl hl.1 rfl (Nat.le_of_ble_eq_true rfl) dX2_tell_1 ⟨(Nat.zero_le _), (Nat.zero_le _)⟩) (fun r1 er1 => ?_)
  try dsimp only at er1
  obtain rfl : r1 = (powR p2) := by
    exact er1
  refine lv_istore (lv' := [(4, .int (powR p2)), (0, .ref (ad 9)), (1, .int p1), (2, .int p2), (3, .int p3)]) hx hb dX2_tell_4 hl (by decide) rfl (fun ls hl => ?_)
  refine lv_iload_n hx hb dX2_tell_6 rfl (lv_at hl 2 rfl) ?_
  refine lv_if_lt (tgt := 33) hx hb dX2_tell_7 (by decide) (fun c7 => ?_) (fun c7 => ?_)
  · skip
    refine lv_iconst (v := 0) hx hb dX2_tell_33 (by decide) ?_
    refine W.zret (v := 0) hx hb hr (by decide) (fun t ht hW => ⟨⟨_, (ad, cap, I, J), rfl, ?_, by rw [ht]; exact hP, by show va_D (va_A (Wd y ad cap I J) s.heap.size) _; rw [hAe]; exact hD⟩, hS.F ht⟩) hS.2.2 dX2_tell_34
    refine ⟨I, rfl, EqX.rf, fun h9 => absurd h9 (fun h8 => ?_), fun _ => ⟨rfl, rfl⟩⟩
    obtain ⟨⟨g1, g2⟩, g3, g4, g5⟩ := h8
    first | exact g1 c7 | exact g2 (by rw [Int32.le_iff_toInt_le] at c13; rw [Int32.lt_iff_toInt_lt]; have h7 : (7 : Int32).toInt = 7 := rfl; have h8 : (8 : Int32).toInt = 8 := rfl; omega) | exact powR_neg.mp c19 g3 | exact g4 c24 | exact c30 (Int32.not_lt.mp g5)
  · skip
    refine lv_iload_n hx hb dX2_tell_10 rfl (lv_at hl 2 rfl) ?_
    refine lv_bipush (v := 8) hx hb dX2_tell_11 (by decide) ?_
    refine lv_icmp_ge (tgt := 33) hx hb dX2_tell_13 (by decide) (fun c13 => ?_) (fun c13 => ?_)
    · skip
      refine lv_iconst (v := 0) hx hb dX2_tell_33 (by decide) ?_
      refine W.zret (v := 0) hx hb hr (by decide) (fun t ht hW => ⟨⟨_, (ad, cap, I, J), rfl, ?_, by rw [ht]; exact hP, by show va_D (va_A (Wd y ad cap I J) s.heap.size) _; rw [hAe]; exact hD⟩, hS.F ht⟩) hS.2.2 dX2_tell_34
      refine ⟨I, rfl, EqX.rf, fun h9 => absurd h9 (fun h8 => ?_), fun _ => ⟨rfl, rfl⟩⟩
      obtain ⟨⟨g1, g2⟩, g3, g4, g5⟩ := h8
      first | exact g1 c7 | exact g2 (by rw [Int32.le_iff_toInt_le] at c13; rw [Int32.lt_iff_toInt_lt]; have h7 : (7 : Int32).toInt = 7 := rfl; have h8 : (8 : Int32).toInt = 8 := rfl; omega) | exact powR_neg.mp c19 g3 | exact g4 c24 | exact c30 (Int32.not_lt.mp g5)
    · skip
      refine lv_iload hx hb dX2_tell_16 (lv_at hl 0 rfl) ?_
      refine lv_iconst (v := (-1)) hx hb dX2_tell_18 (by decide) ?_
      refine lv_icmp_eq (tgt := 33) hx hb dX2_tell_19 (by decide) (fun c19 => ?_) (fun c19 => ?_)
      · skip
        refine lv_iconst (v := 0) hx hb dX2_tell_33 (by decide) ?_
        refine W.zret (v := 0) hx hb hr (by decide) (fun t ht hW => ⟨⟨_, (ad, cap, I, J), rfl, ?_, by rw [ht]; exact hP, by show va_D (va_A (Wd y ad cap I J) s.heap.size) _; rw [hAe]; exact hD⟩, hS.F ht⟩) hS.2.2 dX2_tell_34
        refine ⟨I, rfl, EqX.rf, fun h9 => absurd h9 (fun h8 => ?_), fun _ => ⟨rfl, rfl⟩⟩
        obtain ⟨⟨g1, g2⟩, g3, g4, g5⟩ := h8
        first | exact g1 c7 | exact g2 (by rw [Int32.le_iff_toInt_le] at c13; rw [Int32.lt_iff_toInt_lt]; have h7 : (7 : Int32).toInt = 7 := rfl; have h8 : (8 : Int32).toInt = 8 := rfl; omega) | exact powR_neg.mp c19 g3 | exact g4 c24 | exact c30 (Int32.not_lt.mp g5)
      · skip
        refine lv_iload_n hx hb dX2_tell_22 rfl (lv_at hl 4 rfl) ?_
        refine lv_iconst (v := 4) hx hb dX2_tell_23 (by decide) ?_
        refine lv_icmp_lt (tgt := 33) hx hb dX2_tell_24 (by decide) (fun c24 => ?_) (fun c24 => ?_)
        · skip
          refine lv_iconst (v := 0) hx hb dX2_tell_33 (by decide) ?_
          refine W.zret (v := 0) hx hb hr (by decide) (fun t ht hW => ⟨⟨_, (ad, cap, I, J), rfl, ?_, by rw [ht]; exact hP, by show va_D (va_A (Wd y ad cap I J) s.heap.size) _; rw [hAe]; exact hD⟩, hS.F ht⟩) hS.2.2 dX2_tell_34
          refine ⟨I, rfl, EqX.rf, fun h9 => absurd h9 (fun h8 => ?_), fun _ => ⟨rfl, rfl⟩⟩
          obtain ⟨⟨g1, g2⟩, g3, g4, g5⟩ := h8
          first | exact g1 c7 | exact g2 (by rw [Int32.le_iff_toInt_le] at c13; rw [Int32.lt_iff_toInt_lt]; have h7 : (7 : Int32).toInt = 7 := rfl; have h8 : (8 : Int32).toInt = 8 := rfl; omega) | exact powR_neg.mp c19 g3 | exact g4 c24 | exact c30 (Int32.not_lt.mp g5)
        · skip
          refine lv_iload_n hx hb dX2_tell_27 rfl (lv_at hl 4 rfl) ?_
          refine lv_bipush (v := 30) hx hb dX2_tell_28 (by decide) ?_
          refine lv_icmp_le (tgt := 35) hx hb dX2_tell_30 (by decide) (fun c30 => ?_) (fun c30 => ?_)
          · skip
            have hV : kndV p1 p2 p3 := ⟨⟨c7, fun h9 => c13 (by rw [Int32.le_iff_toInt_le] at *; rw [Int32.lt_iff_toInt_lt] at h9; have h7 : (7 : Int32).toInt = 7 := rfl; have h8 : (8 : Int32).toInt = 8 := rfl; omega)⟩, Classical.byContradiction (fun h9 => c19 (powR_neg.mpr h9)), c24, Int32.not_lt.mpr c30⟩
            have hV0 := hV
            obtain ⟨k1, hk⟩ := inR_nat (n := 7) rfl hV.1
            obtain ⟨b1, hb9⟩ := inR_nat (v := p3) (n := 30) rfl ⟨fun h9 => c24 (by rw [Int32.lt_iff_toInt_lt] at *; have h7 : (0 : Int32).toInt = 0 := rfl; have h8 : (4 : Int32).toInt = 4 := rfl; omega), Int32.not_lt.mpr c30⟩
            obtain ⟨w9, hp3⟩ := powR_pw hV.2.1
            rw [w9] at hl
            generalize p1.toNatClampNeg = k at k1 hk ⊢
            generalize p3.toNatClampNeg = b at b1 hb9 ⊢
            subst k1
            subst b1
            clear c7 c13 c24 c30
            refine lv_aload_n hx hb dX2_tell_35 rfl (lv_at hl 1 rfl) ?_
            refine va_get (D := D) (T := TX2) (N := 2) hx hb hts jnX2 hown hK hP 9 (wd_9 y ad cap I J) rfl 0 (by decide) (hts _ fl_X2_9) (fun _ h9 => h9) rfl dX2_tell_36 ?_
            refine lv_iload_n hx hb dX2_tell_39 rfl (lv_at hl 2 rfl) ?_
            refine lv_iload hx hb dX2_tell_40 (lv_at hl 0 rfl) ?_
            refine va_iast (D := D) hx hb hK hP hD hS 10 0 (wd_10 y ad cap I J) rfl (vp_in_nI (by omega) (by omega)) dX2_tell_42 (fun H locs hP hD hS => ?_)
            rw [nI_clamp (n := k) (by omega)] at hP hD
            rw [ws_10] at hP hD
            generalize eI42 : va_up I 10 (upd (I 10) k (nI (pw p2))) = I42 at hP hD
            refine lv_aload_n hx hb dX2_tell_43 rfl (lv_at hl 1 rfl) ?_
            refine va_get (D := D) (T := TX2) (N := 2) hx hb hts jnX2 hown hK hP 9 (wd_9 y ad cap I42 J) rfl 1 (by decide) (hts _ fl_X2_15) (fun _ h9 => h9) rfl dX2_tell_44 ?_
            refine lv_iload_n hx hb dX2_tell_47 rfl (lv_at hl 2 rfl) ?_
            refine lv_iload_n hx hb dX2_tell_48 rfl (lv_at hl 4 rfl) ?_
            refine va_iast (D := D) hx hb hK hP hD hS 11 0 (wd_11 y ad cap I42 J) rfl (vp_in_nI (by omega) (by omega)) dX2_tell_49 (fun H locs hP hD hS => ?_)
            rw [nI_clamp (n := k) (by omega)] at hP hD
            rw [ws_11] at hP hD
            generalize eI49 : va_up I42 11 (upd (I42 11) k (nI b)) = I49 at hP hD
            refine lv_iconst (v := 1) hx hb dX2_tell_50 (by decide) ?_
            refine W.zret (v := 1) hx hb hr (by decide) (fun t ht hW => ⟨⟨_, (ad, cap, I49, J), rfl, ?_, by rw [ht]; exact hP, by show va_D (va_A (Wd y ad cap I J) s.heap.size) _; rw [hAe]; exact hD⟩, hS.F ht⟩) hS.2.2 dX2_tell_51
            refine ⟨_, rfl, ?_, fun _ => ⟨rfl, RT1_addK (k := k) (p := pw p2) (b := b) hT eI42.symm eI49.symm⟩, fun h9 => absurd hV0 h9⟩
            subst_vars
            refine EqX.up (EqX.up (EqX.rf) ?_) ?_ <;> decide
          · skip
            refine lv_iconst (v := 0) hx hb dX2_tell_33 (by decide) ?_
            refine W.zret (v := 0) hx hb hr (by decide) (fun t ht hW => ⟨⟨_, (ad, cap, I, J), rfl, ?_, by rw [ht]; exact hP, by show va_D (va_A (Wd y ad cap I J) s.heap.size) _; rw [hAe]; exact hD⟩, hS.F ht⟩) hS.2.2 dX2_tell_34
            refine ⟨I, rfl, EqX.rf, fun h9 => absurd h9 (fun h8 => ?_), fun _ => ⟨rfl, rfl⟩⟩
            obtain ⟨⟨g1, g2⟩, g3, g4, g5⟩ := h8
            first | exact g1 c7 | exact g2 (by rw [Int32.le_iff_toInt_le] at c13; rw [Int32.lt_iff_toInt_lt]; have h7 : (7 : Int32).toInt = 7 := rfl; have h8 : (8 : Int32).toInt = 8 := rfl; omega) | exact powR_neg.mp c19 g3 | exact g4 c24 | exact c30 (Int32.not_lt.mp g5)
theorem kh_iff {I : Nat → Nat → Int32} {T : Nat → Nat → Nat} (hT : RT1 I T) (hW : WF T) {p : Int32} : (¬ p < 0 ∧ ¬ 8 ≤ p ∧ ¬ I 11 p.toNatClampNeg = 0) ↔ knd T p := by
  unfold knd
  constructor
  · rintro ⟨h1, h2, h3⟩
    refine ⟨⟨h1, h2⟩, fun h9 => h3 ?_⟩
    obtain ⟨j, rfl, hj⟩ := ix_ok (n := 8) (by omega) ⟨h1, h2⟩
    rw [nI_clamp (by omega)] at *
    rw [(hT.2.2.2.2 j hj).2, h9]
    rfl
  · rintro ⟨⟨h1, h2⟩, h3⟩
    refine ⟨h1, h2, fun h9 => h3 ?_⟩
    obtain ⟨j, rfl, hj⟩ := ix_ok (n := 8) (by omega) ⟨h1, h2⟩
    rw [nI_clamp (by omega)] at *
    rw [(hT.2.2.2.2 j hj).2] at h9
    have := (hW.2.2.2.2.1 j hj).2
    exact (nI_z (by omega)).mp h9
set_option maxHeartbeats 4000000 in
set_option maxRecDepth 100000 in
theorem c_X7_tellThunks (l : Launch) (D : va_G) (y : Nat → ClassId) (ad : Nat → Nat) (cap : Nat → Nat) (I : Nat → Nat → Int32) (J : Nat → Nat → Int64) (sz : Nat) {T : Nat → Nat → Nat} (hT : RT1 I T) (hW : WF T) (p1 p2 p3 : Int32) : Met l yX7_tellThunks [.code yX7_tellThunks cX7_tellThunks 4 (some .boolean)] ({ frames := 1, cells := 0, slots := 0, locals := 21 }) (va_Pc [.ref (ad 1), .int p1, .int p2, .int p3] (PW D y (Wd y ad cap I J) sz)) (va_Qi (fun (r : Int32) (u : St4) => ∃ I', u = (ad, cap, I', J) ∧ EqX [1] I I' ∧ (thkV T p1 p2 p3 → r = 1 ∧ RT1 I' (addT T p1.toNatClampNeg p2.toNatClampNeg p3.toNatClampNeg)) ∧ (¬ thkV T p1 p2 p3 → r = 0 ∧ I' = I)) (Aft D (Wt y) (Wd y ad cap I J) sz) (va_A (Wd y ad cap I J) sz)) 0 0 (va_A (Wd y ad cap I J) sz) := by
  refine Met.ofW (cc := cX7_tellThunks) (maxL := 4) (ret := (some .boolean)) (by decide) rfl ?_
  intro p e s m args below meth c s₁ B hml hv
  obtain ⟨rfl, rfl, hP, hD0, hO⟩ := hv
  have hx := B.exec
  have hb := B.bytes
  have hr := B.returns
  have hown : s.vm.findClass RX7 = some m.cls := findClass_of_methodNamed B.named
  have hlocks := B.notSynchronized
  have hK := hO.1
  have hts : ∀ w ∈ lw_E, w.before ([.ref (ad 1), .int p1, .int p2, .int p3] : List Value).toArray s = true := fun w h => hO.2 w h _
  clear B
  have hD := hD0.self (sz := s.heap.size)
  generalize hAe : va_A (Wd y ad cap I J) s.heap.size = A at hD ⊢
  have hA : ∀ q : Nat, s.heap.size ≤ q → A q := fun q h => by rw [← hAe]; exact Or.inr h
  have hS : va_S A s.heap s.heap [] := va_S.rf
  have hl := lv_entry ([.ref (ad 1), .int p1, .int p2, .int p3]) (n := 4) (Nat.le_of_ble_eq_true rfl)
  rw [lg_entry_eq]
  generalize (lg_sl ([.ref (ad 1), .int p1, .int p2, .int p3]) ++ List.replicate (4 - (lg_sl ([.ref (ad 1), .int p1, .int p2, .int p3])).length) Slot.unset).toArray = ls at hl ⊢
  have hl : lv_has ls 4 [(0, .ref (ad 1)), (1, .int p1), (2, .int p2), (3, .int p3)] := hl
  have hW0 := hW
  obtain ⟨⟨w1, w2, w3, w4, w5, w6, w7⟩, wS, wL, wB, wK, wTk, wT0⟩ := hW
  refine lv_iload_n hx hb dX7_tellThunks_0 rfl (lv_at hl 1 rfl) ?_
  refine lv_iconst (v := 1) hx hb dX7_tellThunks_1 (by decide) ?_
  refine lv_icmp_lt (tgt := 32) hx hb dX7_tellThunks_2 (by decide) (fun c2 => ?_) (fun c2 => ?_)
  · skip
    refine lv_iconst (v := 0) hx hb dX7_tellThunks_32 (by decide) ?_
    refine W.zret (v := 0) hx hb hr (by decide) (fun t ht hW => ⟨⟨_, (ad, cap, I, J), rfl, ?_, by rw [ht]; exact hP, by show va_D (va_A (Wd y ad cap I J) s.heap.size) _; rw [hAe]; exact hD⟩, hS.F ht⟩) hS.2.2 dX7_tellThunks_33
    refine ⟨I, rfl, EqX.rf, fun h9 => absurd h9 (fun h8 => ?_), fun _ => ⟨rfl, rfl⟩⟩
    obtain ⟨⟨g1, g2⟩, ⟨g3, g4⟩, g5⟩ := h8
    first | exact g1 c2 | exact g2 c8 | exact g3 c12 | exact g4 c18 | exact c29 ((kh_iff hT hW0).mpr g5)
  · skip
    refine lv_iload_n hx hb dX7_tellThunks_5 rfl (lv_at hl 1 rfl) ?_
    refine lv_bipush (v := 64) hx hb dX7_tellThunks_6 (by decide) ?_
    refine lv_icmp_gt (tgt := 32) hx hb dX7_tellThunks_8 (by decide) (fun c8 => ?_) (fun c8 => ?_)
    · skip
      refine lv_iconst (v := 0) hx hb dX7_tellThunks_32 (by decide) ?_
      refine W.zret (v := 0) hx hb hr (by decide) (fun t ht hW => ⟨⟨_, (ad, cap, I, J), rfl, ?_, by rw [ht]; exact hP, by show va_D (va_A (Wd y ad cap I J) s.heap.size) _; rw [hAe]; exact hD⟩, hS.F ht⟩) hS.2.2 dX7_tellThunks_33
      refine ⟨I, rfl, EqX.rf, fun h9 => absurd h9 (fun h8 => ?_), fun _ => ⟨rfl, rfl⟩⟩
      obtain ⟨⟨g1, g2⟩, ⟨g3, g4⟩, g5⟩ := h8
      first | exact g1 c2 | exact g2 c8 | exact g3 c12 | exact g4 c18 | exact c29 ((kh_iff hT hW0).mpr g5)
    · skip
      refine lv_iload_n hx hb dX7_tellThunks_11 rfl (lv_at hl 2 rfl) ?_
      refine lv_if_lt (tgt := 32) hx hb dX7_tellThunks_12 (by decide) (fun c12 => ?_) (fun c12 => ?_)
      · skip
        refine lv_iconst (v := 0) hx hb dX7_tellThunks_32 (by decide) ?_
        refine W.zret (v := 0) hx hb hr (by decide) (fun t ht hW => ⟨⟨_, (ad, cap, I, J), rfl, ?_, by rw [ht]; exact hP, by show va_D (va_A (Wd y ad cap I J) s.heap.size) _; rw [hAe]; exact hD⟩, hS.F ht⟩) hS.2.2 dX7_tellThunks_33
        refine ⟨I, rfl, EqX.rf, fun h9 => absurd h9 (fun h8 => ?_), fun _ => ⟨rfl, rfl⟩⟩
        obtain ⟨⟨g1, g2⟩, ⟨g3, g4⟩, g5⟩ := h8
        first | exact g1 c2 | exact g2 c8 | exact g3 c12 | exact g4 c18 | exact c29 ((kh_iff hT hW0).mpr g5)
      · skip
        refine lv_iload_n hx hb dX7_tellThunks_15 rfl (lv_at hl 2 rfl) ?_
        refine lv_bipush (v := 6) hx hb dX7_tellThunks_16 (by decide) ?_
        refine lv_icmp_gt (tgt := 32) hx hb dX7_tellThunks_18 (by decide) (fun c18 => ?_) (fun c18 => ?_)
        · skip
          refine lv_iconst (v := 0) hx hb dX7_tellThunks_32 (by decide) ?_
          refine W.zret (v := 0) hx hb hr (by decide) (fun t ht hW => ⟨⟨_, (ad, cap, I, J), rfl, ?_, by rw [ht]; exact hP, by show va_D (va_A (Wd y ad cap I J) s.heap.size) _; rw [hAe]; exact hD⟩, hS.F ht⟩) hS.2.2 dX7_tellThunks_33
          refine ⟨I, rfl, EqX.rf, fun h9 => absurd h9 (fun h8 => ?_), fun _ => ⟨rfl, rfl⟩⟩
          obtain ⟨⟨g1, g2⟩, ⟨g3, g4⟩, g5⟩ := h8
          first | exact g1 c2 | exact g2 c8 | exact g3 c12 | exact g4 c18 | exact c29 ((kh_iff hT hW0).mpr g5)
        · skip
          refine lv_aload_n hx hb dX7_tellThunks_21 rfl (lv_at hl 0 rfl) ?_
          refine va_get (D := D) (T := TX7) (N := 8) hx hb hts jnX7 hown hK hP 1 (wd_1 y ad cap I J) rfl 2 (by decide) (hts _ fl_X7_28) (fun _ h9 => h9) rfl dX7_tellThunks_22 ?_
          refine lv_iload_n hx hb dX7_tellThunks_25 rfl (lv_at hl 3 rfl) ?_
          refine rk_i (run_vn (As := [.int p3]) (rest := []) (b := (ad 9)) hx hb hml hown hO.2 (c_X2_has l D y (wd_9 y ad cap I J) (wd_11 y ad cap I J) p3) k_X2_has mn_X7_52 ⟨rfl, rfl⟩ ⟨Nat.le_of_ble_eq_true rfl, Nat.le_of_ble_eq_true rfl⟩ (pre_VR hO hP (wd_9 y ad cap I J) rfl) rfl hl.1 rfl (Nat.le_of_ble_eq_true rfl) dX7_tellThunks_26 ⟨(Nat.zero_le _), (Nat.zero_le _)⟩) (fun r26 er26 => ?_)
          try dsimp only at er26
          refine lv_if_ne (tgt := 34) hx hb dX7_tellThunks_29 (by decide) (fun c29 => ?_) (fun c29 => ?_)
          · skip
            have c29 := if01_n er26 c29
            have c29 := (kh_iff hT hW0).mp c29
            have hV : thkV T p1 p2 p3 := ⟨⟨c2, c8⟩, ⟨c12, c18⟩, c29⟩
            have hV0 := hV
            obtain ⟨a1, ha⟩ := inR_nat (v := p1) (n := 64) rfl ⟨fun h9 => c2 (by rw [Int32.lt_iff_toInt_lt] at *; have h7 : (0 : Int32).toInt = 0 := rfl; have h8 : (1 : Int32).toInt = 1 := rfl; omega), c8⟩
            obtain ⟨k1, hk⟩ := inR_nat (n := 6) rfl hV.2.1
            obtain ⟨q, q1, hq⟩ := ix_ok (n := 8) (by omega) c29.1
            have q2 : p3.toNatClampNeg = q := by rw [q1]; exact nI_clamp (by omega)
            rw [q2]
            generalize p1.toNatClampNeg = a at a1 ha ⊢
            generalize p2.toNatClampNeg = k at k1 hk ⊢
            subst a1
            subst k1
            subst q1
            refine lv_aload_n hx hb dX7_tellThunks_34 rfl (lv_at hl 0 rfl) ?_
            refine lv_iload_n hx hb dX7_tellThunks_35 rfl (lv_at hl 1 rfl) ?_
            refine va_put (D := D) (T := TX7) (N := 8) (v := .int (nI a)) (ty := .int) hx hb hts jnX7 tyX7 tyX7_ok nmX7 hown hK hP hD hS 1 (wd_1 y ad cap I J) rfl 5 (by decide) (hts _ fl_X7_43) (fun _ h9 => h9) rfl (by decide +kernel) rfl rfl (Nat.le_of_ble_eq_true rfl) dX7_tellThunks_36 (fun H locs hP hD hS => ?_)
            rw [wp_1_5] at hP hD
            generalize eI36 : va_up I 1 (upd (I 1) 5 (nI a)) = I36 at hP hD
            refine lv_aload_n hx hb dX7_tellThunks_39 rfl (lv_at hl 0 rfl) ?_
            refine lv_iconst (v := 1) hx hb dX7_tellThunks_40 (by decide) ?_
            refine lv_iload_n hx hb dX7_tellThunks_41 rfl (lv_at hl 2 rfl) ?_
            refine lv_ishl hx hb dX7_tellThunks_42 ?_
            refine lv_topi (fun v42 ev42 => ?_)
            obtain rfl : v42 = ((1 : Int32) <<< (nI k &&& 31)) := by
              exact ev42
            refine va_put (D := D) (T := TX7) (N := 8) (v := .int ((1 : Int32) <<< (nI k &&& 31))) (ty := .int) hx hb hts jnX7 tyX7 tyX7_ok nmX7 hown hK hP hD hS 1 (wd_1 y ad cap I36 J) rfl 6 (by decide) (hts _ fl_X7_46) (fun _ h9 => h9) rfl (by decide +kernel) rfl rfl (Nat.le_of_ble_eq_true rfl) dX7_tellThunks_43 (fun H locs hP hD hS => ?_)
            rw [wp_1_6] at hP hD
            generalize eI43 : va_up I36 1 (upd (I36 1) 6 ((1 : Int32) <<< (nI k &&& 31))) = I43 at hP hD
            refine lv_aload_n hx hb dX7_tellThunks_46 rfl (lv_at hl 0 rfl) ?_
            refine lv_iload_n hx hb dX7_tellThunks_47 rfl (lv_at hl 3 rfl) ?_
            refine va_put (D := D) (T := TX7) (N := 8) (v := .int (nI q)) (ty := .int) hx hb hts jnX7 tyX7 tyX7_ok nmX7 hown hK hP hD hS 1 (wd_1 y ad cap I43 J) rfl 7 (by decide) (hts _ fl_X7_49) (fun _ h9 => h9) rfl (by decide +kernel) rfl rfl (Nat.le_of_ble_eq_true rfl) dX7_tellThunks_48 (fun H locs hP hD hS => ?_)
            rw [wp_1_7] at hP hD
            generalize eI48 : va_up I43 1 (upd (I43 1) 7 (nI q)) = I48 at hP hD
            refine lv_iconst (v := 1) hx hb dX7_tellThunks_51 (by decide) ?_
            refine W.zret (v := 1) hx hb hr (by decide) (fun t ht hW => ⟨⟨_, (ad, cap, I48, J), rfl, ?_, by rw [ht]; exact hP, by show va_D (va_A (Wd y ad cap I J) s.heap.size) _; rw [hAe]; exact hD⟩, hS.F ht⟩) hS.2.2 dX7_tellThunks_52
            refine ⟨_, rfl, ?_, fun _ => ⟨rfl, RT1_addT (s := a) (a := k) (k := q) hk hT eI36.symm eI43.symm eI48.symm⟩, fun h9 => absurd hV0 h9⟩
            subst_vars
            refine EqX.up (EqX.up (EqX.up (EqX.rf) ?_) ?_) ?_ <;> decide
          · skip
            have c29 := if01_z er26 c29
            refine lv_iconst (v := 0) hx hb dX7_tellThunks_32 (by decide) ?_
            refine W.zret (v := 0) hx hb hr (by decide) (fun t ht hW => ⟨⟨_, (ad, cap, I, J), rfl, ?_, by rw [ht]; exact hP, by show va_D (va_A (Wd y ad cap I J) s.heap.size) _; rw [hAe]; exact hD⟩, hS.F ht⟩) hS.2.2 dX7_tellThunks_33
            refine ⟨I, rfl, EqX.rf, fun h9 => absurd h9 (fun h8 => ?_), fun _ => ⟨rfl, rfl⟩⟩
            obtain ⟨⟨g1, g2⟩, ⟨g3, g4⟩, g5⟩ := h8
            first | exact g1 c2 | exact g2 c8 | exact g3 c12 | exact g4 c18 | exact c29 ((kh_iff hT hW0).mpr g5)
