set_option maxHeartbeats 4000000 in
set_option maxRecDepth 100000 in
theorem c_X5_has (l : Launch) (D : va_G) (y : Nat → ClassId) {ws : va_W} {n1 : Int32} {q1 a1 : Nat} {z1_1 z1_2 z1_3 z1_4 : Value} (h1 : ws[q1]? = some (a1, .inr (5, [.int n1, z1_1, z1_2, z1_3, z1_4]))) (p0 : Int32) : Met l yX5_has [.code yX5_has cX5_has 2 (some .boolean)] ({ frames := 0, cells := 0, slots := 0, locals := 0 }) (va_Pc [.ref a1, .int p0] (PR D y ws)) (vp_Si (fun r => r = if ¬ p0 < 0 ∧ ¬ n1 ≤ p0 then 1 else 0)) 0 0 (fun _ => False) := by
  refine Met.ofW (cc := cX5_has) (maxL := 2) (ret := (some .boolean)) (by decide) rfl ?_
  intro p e s m args below meth c s₁ B hml hv
  obtain ⟨rfl, hP, hO⟩ := hv
  have hx := B.exec
  have hb := B.bytes
  have hr := B.returns
  have hown : s.vm.findClass RX5 = some m.cls := findClass_of_methodNamed B.named
  have hlocks := B.notSynchronized
  have hK := hO.1
  have hts : ∀ w ∈ lw_E, w.before ([.ref a1, .int p0] : List Value).toArray s = true := fun w h => hO.2 w h _
  clear B
  have hl := lv_entry ([.ref a1, .int p0]) (n := 2) (Nat.le_of_ble_eq_true rfl)
  rw [lg_entry_eq]
  generalize (lg_sl ([.ref a1, .int p0]) ++ List.replicate (2 - (lg_sl ([.ref a1, .int p0])).length) Slot.unset).toArray = ls at hl ⊢
  have hl : lv_has ls 2 [(0, .ref a1), (1, .int p0)] := hl
  refine lv_iload_n hx hb dX5_has_0 rfl (lv_at hl 1 rfl) ?_
  refine lv_if_lt (tgt := 16) hx hb dX5_has_1 (by decide) (fun c1 => ?_) (fun c1 => ?_)
  · skip
    refine lv_iconst (v := 0) hx hb dX5_has_16 (by decide) ?_
    refine W.zret (v := 0) hx hb hr (by decide) (fun t ht hW => ⟨_, rfl, ?_, ht⟩) (fun _ h => nomatch h) dX5_has_17
    simp [*]
  · skip
    refine lv_iload_n hx hb dX5_has_4 rfl (lv_at hl 1 rfl) ?_
    refine lv_aload_n hx hb dX5_has_5 rfl (lv_at hl 0 rfl) ?_
    refine va_get (D := D) (T := TX5) (N := 5) hx hb hts jnX5 hown hK hP q1 h1 rfl 0 (by decide) (hts _ fl_X5_9) (fun _ h9 => h9) rfl dX5_has_6 ?_
    refine lv_icmp_ge (tgt := 16) hx hb dX5_has_9 (by decide) (fun c9 => ?_) (fun c9 => ?_)
    · skip
      refine lv_iconst (v := 0) hx hb dX5_has_16 (by decide) ?_
      refine W.zret (v := 0) hx hb hr (by decide) (fun t ht hW => ⟨_, rfl, ?_, ht⟩) (fun _ h => nomatch h) dX5_has_17
      simp [*]
    · skip
      refine lv_iconst (v := 1) hx hb dX5_has_12 (by decide) ?_
      refine lv_goto (tgt := 17) hx hb dX5_has_13 (by decide) ?_
      refine W.zret (v := 1) hx hb hr (by decide) (fun t ht hW => ⟨_, rfl, ?_, ht⟩) (fun _ h => nomatch h) dX5_has_17
      simp [*]
set_option maxHeartbeats 4000000 in
set_option maxRecDepth 100000 in
theorem c_X3_has (l : Launch) (D : va_G) (y : Nat → ClassId) {ws : va_W} {n1 : Int32} {q1 a1 : Nat} {z1_1 z1_2 : Value} (h1 : ws[q1]? = some (a1, .inr (3, [.int n1, z1_1, z1_2]))) (p0 : Int32) : Met l yX3_has [.code yX3_has cX3_has 2 (some .boolean)] ({ frames := 0, cells := 0, slots := 0, locals := 0 }) (va_Pc [.ref a1, .int p0] (PR D y ws)) (vp_Si (fun r => r = if ¬ p0 < 0 ∧ ¬ n1 ≤ p0 then 1 else 0)) 0 0 (fun _ => False) := by
  refine Met.ofW (cc := cX3_has) (maxL := 2) (ret := (some .boolean)) (by decide) rfl ?_
  intro p e s m args below meth c s₁ B hml hv
  obtain ⟨rfl, hP, hO⟩ := hv
  have hx := B.exec
  have hb := B.bytes
  have hr := B.returns
  have hown : s.vm.findClass RX3 = some m.cls := findClass_of_methodNamed B.named
  have hlocks := B.notSynchronized
  have hK := hO.1
  have hts : ∀ w ∈ lw_E, w.before ([.ref a1, .int p0] : List Value).toArray s = true := fun w h => hO.2 w h _
  clear B
  have hl := lv_entry ([.ref a1, .int p0]) (n := 2) (Nat.le_of_ble_eq_true rfl)
  rw [lg_entry_eq]
  generalize (lg_sl ([.ref a1, .int p0]) ++ List.replicate (2 - (lg_sl ([.ref a1, .int p0])).length) Slot.unset).toArray = ls at hl ⊢
  have hl : lv_has ls 2 [(0, .ref a1), (1, .int p0)] := hl
  refine lv_iload_n hx hb dX3_has_0 rfl (lv_at hl 1 rfl) ?_
  refine lv_if_lt (tgt := 16) hx hb dX3_has_1 (by decide) (fun c1 => ?_) (fun c1 => ?_)
  · skip
    refine lv_iconst (v := 0) hx hb dX3_has_16 (by decide) ?_
    refine W.zret (v := 0) hx hb hr (by decide) (fun t ht hW => ⟨_, rfl, ?_, ht⟩) (fun _ h => nomatch h) dX3_has_17
    simp [*]
  · skip
    refine lv_iload_n hx hb dX3_has_4 rfl (lv_at hl 1 rfl) ?_
    refine lv_aload_n hx hb dX3_has_5 rfl (lv_at hl 0 rfl) ?_
    refine va_get (D := D) (T := TX3) (N := 3) hx hb hts jnX3 hown hK hP q1 h1 rfl 0 (by decide) (hts _ fl_X3_9) (fun _ h9 => h9) rfl dX3_has_6 ?_
    refine lv_icmp_ge (tgt := 16) hx hb dX3_has_9 (by decide) (fun c9 => ?_) (fun c9 => ?_)
    · skip
      refine lv_iconst (v := 0) hx hb dX3_has_16 (by decide) ?_
      refine W.zret (v := 0) hx hb hr (by decide) (fun t ht hW => ⟨_, rfl, ?_, ht⟩) (fun _ h => nomatch h) dX3_has_17
      simp [*]
    · skip
      refine lv_iconst (v := 1) hx hb dX3_has_12 (by decide) ?_
      refine lv_goto (tgt := 17) hx hb dX3_has_13 (by decide) ?_
      refine W.zret (v := 1) hx hb hr (by decide) (fun t ht hW => ⟨_, rfl, ?_, ht⟩) (fun _ h => nomatch h) dX3_has_17
      simp [*]
set_option maxHeartbeats 4000000 in
set_option maxRecDepth 100000 in
theorem c_X1_has (l : Launch) (D : va_G) (y : Nat → ClassId) {ws : va_W} {n1 : Int32} {q1 a1 : Nat} {z1_1 z1_2 z1_3 z1_4 : Value} (h1 : ws[q1]? = some (a1, .inr (1, [.int n1, z1_1, z1_2, z1_3, z1_4]))) (p0 : Int32) : Met l yX1_has [.code yX1_has cX1_has 2 (some .boolean)] ({ frames := 0, cells := 0, slots := 0, locals := 0 }) (va_Pc [.ref a1, .int p0] (PR D y ws)) (vp_Si (fun r => r = if ¬ p0 < 0 ∧ ¬ n1 ≤ p0 then 1 else 0)) 0 0 (fun _ => False) := by
  refine Met.ofW (cc := cX1_has) (maxL := 2) (ret := (some .boolean)) (by decide) rfl ?_
  intro p e s m args below meth c s₁ B hml hv
  obtain ⟨rfl, hP, hO⟩ := hv
  have hx := B.exec
  have hb := B.bytes
  have hr := B.returns
  have hown : s.vm.findClass RX1 = some m.cls := findClass_of_methodNamed B.named
  have hlocks := B.notSynchronized
  have hK := hO.1
  have hts : ∀ w ∈ lw_E, w.before ([.ref a1, .int p0] : List Value).toArray s = true := fun w h => hO.2 w h _
  clear B
  have hl := lv_entry ([.ref a1, .int p0]) (n := 2) (Nat.le_of_ble_eq_true rfl)
  rw [lg_entry_eq]
  generalize (lg_sl ([.ref a1, .int p0]) ++ List.replicate (2 - (lg_sl ([.ref a1, .int p0])).length) Slot.unset).toArray = ls at hl ⊢
  have hl : lv_has ls 2 [(0, .ref a1), (1, .int p0)] := hl
  refine lv_iload_n hx hb dX1_has_0 rfl (lv_at hl 1 rfl) ?_
  refine lv_if_lt (tgt := 16) hx hb dX1_has_1 (by decide) (fun c1 => ?_) (fun c1 => ?_)
  · skip
    refine lv_iconst (v := 0) hx hb dX1_has_16 (by decide) ?_
    refine W.zret (v := 0) hx hb hr (by decide) (fun t ht hW => ⟨_, rfl, ?_, ht⟩) (fun _ h => nomatch h) dX1_has_17
    simp [*]
  · skip
    refine lv_iload_n hx hb dX1_has_4 rfl (lv_at hl 1 rfl) ?_
    refine lv_aload_n hx hb dX1_has_5 rfl (lv_at hl 0 rfl) ?_
    refine va_get (D := D) (T := TX1) (N := 5) hx hb hts jnX1 hown hK hP q1 h1 rfl 0 (by decide) (hts _ fl_X1_9) (fun _ h9 => h9) rfl dX1_has_6 ?_
    refine lv_icmp_ge (tgt := 16) hx hb dX1_has_9 (by decide) (fun c9 => ?_) (fun c9 => ?_)
    · skip
      refine lv_iconst (v := 0) hx hb dX1_has_16 (by decide) ?_
      refine W.zret (v := 0) hx hb hr (by decide) (fun t ht hW => ⟨_, rfl, ?_, ht⟩) (fun _ h => nomatch h) dX1_has_17
      simp [*]
    · skip
      refine lv_iconst (v := 1) hx hb dX1_has_12 (by decide) ?_
      refine lv_goto (tgt := 17) hx hb dX1_has_13 (by decide) ?_
      refine W.zret (v := 1) hx hb hr (by decide) (fun t ht hW => ⟨_, rfl, ?_, ht⟩) (fun _ h => nomatch h) dX1_has_17
      simp [*]
set_option maxHeartbeats 4000000 in
set_option maxRecDepth 100000 in
theorem c_X6_has (l : Launch) (D : va_G) (y : Nat → ClassId) {ws : va_W} {n1 : Int32} {q1 a1 : Nat} {z1_1 z1_2 z1_3 z1_4 z1_5 z1_6 z1_7 z1_8 z1_9 z1_10 : Value} (h1 : ws[q1]? = some (a1, .inr (6, [.int n1, z1_1, z1_2, z1_3, z1_4, z1_5, z1_6, z1_7, z1_8, z1_9, z1_10]))) (p0 : Int32) : Met l yX6_has [.code yX6_has cX6_has 2 (some .boolean)] ({ frames := 0, cells := 0, slots := 0, locals := 0 }) (va_Pc [.ref a1, .int p0] (PR D y ws)) (vp_Si (fun r => r = if ¬ p0 < 0 ∧ ¬ n1 ≤ p0 then 1 else 0)) 0 0 (fun _ => False) := by
  refine Met.ofW (cc := cX6_has) (maxL := 2) (ret := (some .boolean)) (by decide) rfl ?_
  intro p e s m args below meth c s₁ B hml hv
  obtain ⟨rfl, hP, hO⟩ := hv
  have hx := B.exec
  have hb := B.bytes
  have hr := B.returns
  have hown : s.vm.findClass RX6 = some m.cls := findClass_of_methodNamed B.named
  have hlocks := B.notSynchronized
  have hK := hO.1
  have hts : ∀ w ∈ lw_E, w.before ([.ref a1, .int p0] : List Value).toArray s = true := fun w h => hO.2 w h _
  clear B
  have hl := lv_entry ([.ref a1, .int p0]) (n := 2) (Nat.le_of_ble_eq_true rfl)
  rw [lg_entry_eq]
  generalize (lg_sl ([.ref a1, .int p0]) ++ List.replicate (2 - (lg_sl ([.ref a1, .int p0])).length) Slot.unset).toArray = ls at hl ⊢
  have hl : lv_has ls 2 [(0, .ref a1), (1, .int p0)] := hl
  refine lv_iload_n hx hb dX6_has_0 rfl (lv_at hl 1 rfl) ?_
  refine lv_if_lt (tgt := 16) hx hb dX6_has_1 (by decide) (fun c1 => ?_) (fun c1 => ?_)
  · skip
    refine lv_iconst (v := 0) hx hb dX6_has_16 (by decide) ?_
    refine W.zret (v := 0) hx hb hr (by decide) (fun t ht hW => ⟨_, rfl, ?_, ht⟩) (fun _ h => nomatch h) dX6_has_17
    simp [*]
  · skip
    refine lv_iload_n hx hb dX6_has_4 rfl (lv_at hl 1 rfl) ?_
    refine lv_aload_n hx hb dX6_has_5 rfl (lv_at hl 0 rfl) ?_
    refine va_get (D := D) (T := TX6) (N := 11) hx hb hts jnX6 hown hK hP q1 h1 rfl 0 (by decide) (hts _ fl_X6_9) (fun _ h9 => h9) rfl dX6_has_6 ?_
    refine lv_icmp_ge (tgt := 16) hx hb dX6_has_9 (by decide) (fun c9 => ?_) (fun c9 => ?_)
    · skip
      refine lv_iconst (v := 0) hx hb dX6_has_16 (by decide) ?_
      refine W.zret (v := 0) hx hb hr (by decide) (fun t ht hW => ⟨_, rfl, ?_, ht⟩) (fun _ h => nomatch h) dX6_has_17
      simp [*]
    · skip
      refine lv_iconst (v := 1) hx hb dX6_has_12 (by decide) ?_
      refine lv_goto (tgt := 17) hx hb dX6_has_13 (by decide) ?_
      refine W.zret (v := 1) hx hb hr (by decide) (fun t ht hW => ⟨_, rfl, ?_, ht⟩) (fun _ h => nomatch h) dX6_has_17
      simp [*]
set_option maxHeartbeats 4000000 in
set_option maxRecDepth 100000 in
theorem c_X2_has (l : Launch) (D : va_G) (y : Nat → ClassId) {ws : va_W} {f2 : Nat → Int32} {q1 a1 : Nat} {z1_0 : Value} {q2 a2 : Nat} (h1 : ws[q1]? = some (a1, .inr (2, [z1_0, .ref a2]))) (h2 : ws[q2]? = some (a2, .inl (y 0, 8, .inl f2))) (p0 : Int32) : Met l yX2_has [.code yX2_has cX2_has 2 (some .boolean)] ({ frames := 0, cells := 0, slots := 0, locals := 0 }) (va_Pc [.ref a1, .int p0] (PR D y ws)) (vp_Si (fun r => r = if ¬ p0 < 0 ∧ ¬ 8 ≤ p0 ∧ ¬ f2 p0.toNatClampNeg = 0 then 1 else 0)) 0 0 (fun _ => False) := by
  refine Met.ofW (cc := cX2_has) (maxL := 2) (ret := (some .boolean)) (by decide) rfl ?_
  intro p e s m args below meth c s₁ B hml hv
  obtain ⟨rfl, hP, hO⟩ := hv
  have hx := B.exec
  have hb := B.bytes
  have hr := B.returns
  have hown : s.vm.findClass RX2 = some m.cls := findClass_of_methodNamed B.named
  have hlocks := B.notSynchronized
  have hK := hO.1
  have hts : ∀ w ∈ lw_E, w.before ([.ref a1, .int p0] : List Value).toArray s = true := fun w h => hO.2 w h _
  clear B
  have hl := lv_entry ([.ref a1, .int p0]) (n := 2) (Nat.le_of_ble_eq_true rfl)
  rw [lg_entry_eq]
  generalize (lg_sl ([.ref a1, .int p0]) ++ List.replicate (2 - (lg_sl ([.ref a1, .int p0])).length) Slot.unset).toArray = ls at hl ⊢
  have hl : lv_has ls 2 [(0, .ref a1), (1, .int p0)] := hl
  refine lv_iload_n hx hb dX2_has_0 rfl (lv_at hl 1 rfl) ?_
  refine lv_if_lt (tgt := 23) hx hb dX2_has_1 (by decide) (fun c1 => ?_) (fun c1 => ?_)
  · skip
    refine lv_iconst (v := 0) hx hb dX2_has_23 (by decide) ?_
    refine W.zret (v := 0) hx hb hr (by decide) (fun t ht hW => ⟨_, rfl, ?_, ht⟩) (fun _ h => nomatch h) dX2_has_24
    subst_vars
    simp_all
  · skip
    refine lv_iload_n hx hb dX2_has_4 rfl (lv_at hl 1 rfl) ?_
    refine lv_bipush (v := 8) hx hb dX2_has_5 (by decide) ?_
    refine lv_icmp_ge (tgt := 23) hx hb dX2_has_7 (by decide) (fun c7 => ?_) (fun c7 => ?_)
    · skip
      refine lv_iconst (v := 0) hx hb dX2_has_23 (by decide) ?_
      refine W.zret (v := 0) hx hb hr (by decide) (fun t ht hW => ⟨_, rfl, ?_, ht⟩) (fun _ h => nomatch h) dX2_has_24
      subst_vars
      simp_all
    · skip
      refine lv_aload_n hx hb dX2_has_10 rfl (lv_at hl 0 rfl) ?_
      refine va_get (D := D) (T := TX2) (N := 2) hx hb hts jnX2 hown hK hP q1 h1 rfl 1 (by decide) (hts _ fl_X2_15) (fun _ h9 => h9) rfl dX2_has_11 ?_
      refine lv_iload_n hx hb dX2_has_14 rfl (lv_at hl 1 rfl) ?_
      refine va_iald (D := D) hx hb hK hP q2 0 h2 rfl (vp_in_cc (n := 8) c1 c7 (by decide)) dX2_has_15 ?_
      refine lv_topi (fun v15 ev15 => ?_)
      refine lv_if_eq (tgt := 23) hx hb dX2_has_16 (by decide) (fun c16 => ?_) (fun c16 => ?_)
      · skip
        refine lv_iconst (v := 0) hx hb dX2_has_23 (by decide) ?_
        refine W.zret (v := 0) hx hb hr (by decide) (fun t ht hW => ⟨_, rfl, ?_, ht⟩) (fun _ h => nomatch h) dX2_has_24
        subst_vars
        simp_all
      · skip
        refine lv_iconst (v := 1) hx hb dX2_has_19 (by decide) ?_
        refine lv_goto (tgt := 24) hx hb dX2_has_20 (by decide) ?_
        refine W.zret (v := 1) hx hb hr (by decide) (fun t ht hW => ⟨_, rfl, ?_, ht⟩) (fun _ h => nomatch h) dX2_has_24
        subst_vars
        simp_all
set_option maxHeartbeats 4000000 in
set_option maxRecDepth 100000 in
theorem c_X5_isSize (l : Launch) (D : va_G) (y : Nat → ClassId) {ws : va_W} (p0 : Int32) : Met l yX5_isSize [.code yX5_isSize cX5_isSize 1 (some .boolean)] ({ frames := 0, cells := 0, slots := 0, locals := 0 }) (va_Pc [.int p0] (PR D y ws)) (vp_Si (fun r => r = if ¬ p0 < 0 ∧ ¬ 1000000 < p0 then 1 else 0)) 0 0 (fun _ => False) := by
  refine Met.ofW (cc := cX5_isSize) (maxL := 1) (ret := (some .boolean)) (by decide) rfl ?_
  intro p e s m args below meth c s₁ B hml hv
  obtain ⟨rfl, hP, hO⟩ := hv
  have hx := B.exec
  have hb := B.bytes
  have hr := B.returns
  have hown : s.vm.findClass RX5 = some m.cls := findClass_of_methodNamed B.named
  have hlocks := B.notSynchronized
  have hK := hO.1
  have hts : ∀ w ∈ lw_E, w.before ([.int p0] : List Value).toArray s = true := fun w h => hO.2 w h _
  clear B
  have hl := lv_entry ([.int p0]) (n := 1) (Nat.le_of_ble_eq_true rfl)
  rw [lg_entry_eq]
  generalize (lg_sl ([.int p0]) ++ List.replicate (1 - (lg_sl ([.int p0])).length) Slot.unset).toArray = ls at hl ⊢
  have hl : lv_has ls 1 [(0, .int p0)] := hl
  refine lv_iload_n hx hb dX5_isSize_0 rfl (lv_at hl 0 rfl) ?_
  refine lv_if_lt (tgt := 14) hx hb dX5_isSize_1 (by decide) (fun c1 => ?_) (fun c1 => ?_)
  · skip
    refine lv_iconst (v := 0) hx hb dX5_isSize_14 (by decide) ?_
    refine W.zret (v := 0) hx hb hr (by decide) (fun t ht hW => ⟨_, rfl, ?_, ht⟩) (fun _ h => nomatch h) dX5_isSize_15
    simp [*]
  · skip
    refine lv_iload_n hx hb dX5_isSize_4 rfl (lv_at hl 0 rfl) ?_
    refine lv_ldc (v := 1000000) hx hb hown (hts _ kc_X5_33) dX5_isSize_5 ?_
    refine lv_icmp_gt (tgt := 14) hx hb dX5_isSize_7 (by decide) (fun c7 => ?_) (fun c7 => ?_)
    · skip
      refine lv_iconst (v := 0) hx hb dX5_isSize_14 (by decide) ?_
      refine W.zret (v := 0) hx hb hr (by decide) (fun t ht hW => ⟨_, rfl, ?_, ht⟩) (fun _ h => nomatch h) dX5_isSize_15
      simp [*]
    · skip
      refine lv_iconst (v := 1) hx hb dX5_isSize_10 (by decide) ?_
      refine lv_goto (tgt := 15) hx hb dX5_isSize_11 (by decide) ?_
      refine W.zret (v := 1) hx hb hr (by decide) (fun t ht hW => ⟨_, rfl, ?_, ht⟩) (fun _ h => nomatch h) dX5_isSize_15
      simp [*]
set_option maxHeartbeats 4000000 in
set_option maxRecDepth 100000 in
theorem c_X5_hasPool (l : Launch) (D : va_G) (y : Nat → ClassId) {ws : va_W} {n1 : Nat} {f2 : Nat → Int32} {q1 a1 : Nat} {z1_1 z1_2 z1_3 : Value} {q2 a2 : Nat} (h1 : ws[q1]? = some (a1, .inr (5, [.int (nI n1), z1_1, z1_2, z1_3, .ref a2]))) (h2 : ws[q2]? = some (a2, .inl (y 2, 40, .inl f2))) (hn1 : n1 ≤ 40) (p0 : Int32) : Met l yX5_hasPool [.code yX5_hasPool cX5_hasPool 2 (some .boolean)] ({ frames := 1, cells := 0, slots := 0, locals := 21 }) (va_Pc [.ref a1, .int p0] (PR D y ws)) (vp_Si (fun r => r = if (¬ p0 < 0 ∧ ¬ nI n1 ≤ p0) ∧ ¬ f2 p0.toNatClampNeg = 0 then 1 else 0)) 0 0 (fun _ => False) := by
  refine Met.ofW (cc := cX5_hasPool) (maxL := 2) (ret := (some .boolean)) (by decide) rfl ?_
  intro p e s m args below meth c s₁ B hml hv
  obtain ⟨rfl, hP, hO⟩ := hv
  have hx := B.exec
  have hb := B.bytes
  have hr := B.returns
  have hown : s.vm.findClass RX5 = some m.cls := findClass_of_methodNamed B.named
  have hlocks := B.notSynchronized
  have hK := hO.1
  have hts : ∀ w ∈ lw_E, w.before ([.ref a1, .int p0] : List Value).toArray s = true := fun w h => hO.2 w h _
  clear B
  have hl := lv_entry ([.ref a1, .int p0]) (n := 2) (Nat.le_of_ble_eq_true rfl)
  rw [lg_entry_eq]
  generalize (lg_sl ([.ref a1, .int p0]) ++ List.replicate (2 - (lg_sl ([.ref a1, .int p0])).length) Slot.unset).toArray = ls at hl ⊢
  have hl : lv_has ls 2 [(0, .ref a1), (1, .int p0)] := hl
  refine lv_aload_n hx hb dX5_hasPool_0 rfl (lv_at hl 0 rfl) ?_
  refine lv_iload_n hx hb dX5_hasPool_1 rfl (lv_at hl 1 rfl) ?_
  refine rk_i (run_v (As := [.int p0]) (rest := []) (b := a1) hx hb hml hown hO.2 (c_X5_has l D y h1 p0) k_X5_has ml_X5_29 ⟨rfl, rfl⟩ ⟨Nat.le_of_ble_eq_true rfl, Nat.le_of_ble_eq_true rfl⟩ (pre_VR hO hP h1 rfl) rfl hl.1 rfl (Nat.le_of_ble_eq_true rfl) dX5_hasPool_2 ⟨(Nat.zero_le _), (Nat.zero_le _)⟩) (fun r2 er2 => ?_)
  try dsimp only at er2
  refine lv_if_eq (tgt := 21) hx hb dX5_hasPool_5 (by decide) (fun c5 => ?_) (fun c5 => ?_)
  · skip
    have c5 := if01_z er2 c5
    refine lv_iconst (v := 0) hx hb dX5_hasPool_21 (by decide) ?_
    refine W.zret (v := 0) hx hb hr (by decide) (fun t ht hW => ⟨_, rfl, ?_, ht⟩) (fun _ h => nomatch h) dX5_hasPool_22
    first | rw [if_neg (fun h9 => c5 h9.1)] | (subst_vars; simp_all; done)
  · skip
    have c5 := if01_n er2 c5
    refine lv_aload_n hx hb dX5_hasPool_8 rfl (lv_at hl 0 rfl) ?_
    refine va_get (D := D) (T := TX5) (N := 5) hx hb hts jnX5 hown hK hP q1 h1 rfl 4 (by decide) (hts _ fl_X5_25) (fun _ h9 => h9) rfl dX5_hasPool_9 ?_
    refine lv_iload_n hx hb dX5_hasPool_12 rfl (lv_at hl 1 rfl) ?_
    refine va_zald (D := D) hx hb hK hP q2 2 h2 rfl (vp_in_le c5.1 c5.2 hn1 (by decide)) dX5_hasPool_13 ?_
    refine lv_topi (fun v13 ev13 => ?_)
    refine lv_if_eq (tgt := 21) hx hb dX5_hasPool_14 (by decide) (fun c14 => ?_) (fun c14 => ?_)
    · skip
      refine lv_iconst (v := 0) hx hb dX5_hasPool_21 (by decide) ?_
      refine W.zret (v := 0) hx hb hr (by decide) (fun t ht hW => ⟨_, rfl, ?_, ht⟩) (fun _ h => nomatch h) dX5_hasPool_22
      first | rw [if_neg (fun h9 => c5 h9.1)] | (subst_vars; simp_all; done)
    · skip
      refine lv_iconst (v := 1) hx hb dX5_hasPool_17 (by decide) ?_
      refine lv_goto (tgt := 22) hx hb dX5_hasPool_18 (by decide) ?_
      refine W.zret (v := 1) hx hb hr (by decide) (fun t ht hW => ⟨_, rfl, ?_, ht⟩) (fun _ h => nomatch h) dX5_hasPool_22
      first | rw [if_neg (fun h9 => c5 h9.1)] | (subst_vars; simp_all; done)
set_option maxHeartbeats 4000000 in
set_option maxRecDepth 100000 in
theorem c_X8_alignUp (l : Launch) (D : va_G) (y : Nat → ClassId) {ws : va_W} {a0 k0 : Nat} (ha : a0 < 2 ^ 40) (hk : k0 ≤ 12) : Met l yX8_alignUp [.code yX8_alignUp cX8_alignUp 4 (some .long)] ({ frames := 0, cells := 0, slots := 0, locals := 0 }) (va_Pc [.long (lN a0), .long (lN (2 ^ k0))] (PR D y ws)) (vp_Sl (fun r => r = lN (up a0 k0))) 0 0 (fun _ => False) := by
  refine Met.ofW (cc := cX8_alignUp) (maxL := 4) (ret := (some .long)) (by decide) rfl ?_
  intro p e s m args below meth c s₁ B hml hv
  obtain ⟨rfl, hP, hO⟩ := hv
  have hx := B.exec
  have hb := B.bytes
  have hr := B.returns
  have hown : s.vm.findClass RX8 = some m.cls := findClass_of_methodNamed B.named
  have hlocks := B.notSynchronized
  have hK := hO.1
  have hts : ∀ w ∈ lw_E, w.before ([.long (lN a0), .long (lN (2 ^ k0))] : List Value).toArray s = true := fun w h => hO.2 w h _
  clear B
  have hl := lv_entry ([.long (lN a0), .long (lN (2 ^ k0))]) (n := 4) (Nat.le_of_ble_eq_true rfl)
  rw [lg_entry_eq]
  generalize (lg_sl ([.long (lN a0), .long (lN (2 ^ k0))]) ++ List.replicate (4 - (lg_sl ([.long (lN a0), .long (lN (2 ^ k0))])).length) Slot.unset).toArray = ls at hl ⊢
  have hl : lv_has ls 4 [(0, .long (lN a0)), (2, .long (lN (2 ^ k0)))] := hl
  refine lv_lload_n hx hb dX8_alignUp_0 rfl (lv_at hl 0 rfl) ?_
  refine lv_lload_n hx hb dX8_alignUp_1 rfl (lv_at hl 1 rfl) ?_
  refine lv_ladd hx hb dX8_alignUp_2 ?_
  refine lv_topl (fun v2 ev2 => ?_)
  refine lv_lconst (v := 1) hx hb dX8_alignUp_3 (by decide) ?_
  refine lv_lsub hx hb dX8_alignUp_4 ?_
  refine lv_topl (fun v4 ev4 => ?_)
  refine lv_lload_n hx hb dX8_alignUp_5 rfl (lv_at hl 1 rfl) ?_
  refine lv_lneg hx hb dX8_alignUp_6 ?_
  refine lv_topl (fun v6 ev6 => ?_)
  refine lv_land hx hb dX8_alignUp_7 ?_
  refine lv_topl (fun v7 ev7 => ?_)
  refine W.lret (v := v7) hx hb hr (fun t ht hW => ⟨_, rfl, ?_, ht⟩) (fun _ h => nomatch h) dX8_alignUp_8
  subst_vars
  exact align_up ha hk
set_option maxHeartbeats 4000000 in
set_option maxRecDepth 100000 in
theorem c_X7_hasThunks (l : Launch) (D : va_G) (y : Nat → ClassId) {ws : va_W} {n1 : Nat} {q1 a1 : Nat} {z1_0 z1_1 z1_2 z1_3 z1_4 z1_6 z1_7 : Value} (h1 : ws[q1]? = some (a1, .inr (7, [z1_0, z1_1, z1_2, z1_3, z1_4, .int (nI n1), z1_6, z1_7]))) : Met l yX7_hasThunks [.code yX7_hasThunks cX7_hasThunks 1 (some .boolean)] ({ frames := 0, cells := 0, slots := 0, locals := 0 }) (va_Pc [.ref a1] (PR D y ws)) (vp_Si (fun r => r = if ¬ nI n1 ≤ 0 then 1 else 0)) 0 0 (fun _ => False) := by
  refine Met.ofW (cc := cX7_hasThunks) (maxL := 1) (ret := (some .boolean)) (by decide) rfl ?_
  intro p e s m args below meth c s₁ B hml hv
  obtain ⟨rfl, hP, hO⟩ := hv
  have hx := B.exec
  have hb := B.bytes
  have hr := B.returns
  have hown : s.vm.findClass RX7 = some m.cls := findClass_of_methodNamed B.named
  have hlocks := B.notSynchronized
  have hK := hO.1
  have hts : ∀ w ∈ lw_E, w.before ([.ref a1] : List Value).toArray s = true := fun w h => hO.2 w h _
  clear B
  have hl := lv_entry ([.ref a1]) (n := 1) (Nat.le_of_ble_eq_true rfl)
  rw [lg_entry_eq]
  generalize (lg_sl ([.ref a1]) ++ List.replicate (1 - (lg_sl ([.ref a1])).length) Slot.unset).toArray = ls at hl ⊢
  have hl : lv_has ls 1 [(0, .ref a1)] := hl
  refine lv_aload_n hx hb dX7_hasThunks_0 rfl (lv_at hl 0 rfl) ?_
  refine va_get (D := D) (T := TX7) (N := 8) hx hb hts jnX7 hown hK hP q1 h1 rfl 5 (by decide) (hts _ fl_X7_43) (fun _ h9 => h9) rfl dX7_hasThunks_1 ?_
  refine lv_if_le (tgt := 11) hx hb dX7_hasThunks_4 (by decide) (fun c4 => ?_) (fun c4 => ?_)
  · skip
    refine lv_iconst (v := 0) hx hb dX7_hasThunks_11 (by decide) ?_
    refine W.zret (v := 0) hx hb hr (by decide) (fun t ht hW => ⟨_, rfl, ?_, ht⟩) (fun _ h => nomatch h) dX7_hasThunks_12
    simp [*]
  · skip
    refine lv_iconst (v := 1) hx hb dX7_hasThunks_7 (by decide) ?_
    refine lv_goto (tgt := 12) hx hb dX7_hasThunks_8 (by decide) ?_
    refine W.zret (v := 1) hx hb hr (by decide) (fun t ht hW => ⟨_, rfl, ?_, ht⟩) (fun _ h => nomatch h) dX7_hasThunks_12
    simp [*]
set_option maxHeartbeats 4000000 in
set_option maxRecDepth 100000 in
theorem c_X7_thunkStride (l : Launch) (D : va_G) (y : Nat → ClassId) {ws : va_W} {n1 n2 : Nat} {q1 a1 : Nat} {z1_0 z1_1 z1_2 z1_3 z1_4 z1_7 : Value} (h1 : ws[q1]? = some (a1, .inr (7, [z1_0, z1_1, z1_2, z1_3, z1_4, .int (nI n1), .int (nI (2 ^ n2)), z1_7]))) (hn1 : n1 ≤ 64) (hn2 : n2 ≤ 6) : Met l yX7_thunkStride [.code yX7_thunkStride cX7_thunkStride 1 (some .long)] ({ frames := 1, cells := 0, slots := 0, locals := 23 }) (va_Pc [.ref a1] (PR D y ws)) (vp_Sl (fun r => r = lN (up n1 n2))) 0 0 (fun _ => False) := by
  refine Met.ofW (cc := cX7_thunkStride) (maxL := 1) (ret := (some .long)) (by decide) rfl ?_
  intro p e s m args below meth c s₁ B hml hv
  obtain ⟨rfl, hP, hO⟩ := hv
  have hx := B.exec
  have hb := B.bytes
  have hr := B.returns
  have hown : s.vm.findClass RX7 = some m.cls := findClass_of_methodNamed B.named
  have hlocks := B.notSynchronized
  have hK := hO.1
  have hts : ∀ w ∈ lw_E, w.before ([.ref a1] : List Value).toArray s = true := fun w h => hO.2 w h _
  clear B
  have hl := lv_entry ([.ref a1]) (n := 1) (Nat.le_of_ble_eq_true rfl)
  rw [lg_entry_eq]
  generalize (lg_sl ([.ref a1]) ++ List.replicate (1 - (lg_sl ([.ref a1])).length) Slot.unset).toArray = ls at hl ⊢
  have hl : lv_has ls 1 [(0, .ref a1)] := hl
  have h26 : 2 ^ n2 ≤ 2 ^ 6 := Nat.pow_le_pow_right (by decide) hn2
  refine lv_aload_n hx hb dX7_thunkStride_0 rfl (lv_at hl 0 rfl) ?_
  refine va_get (D := D) (T := TX7) (N := 8) hx hb hts jnX7 hown hK hP q1 h1 rfl 5 (by decide) (hts _ fl_X7_43) (fun _ h9 => h9) rfl dX7_thunkStride_1 ?_
  refine lv_i2l (v := lN n1) hx hb dX7_thunkStride_4 (nI_l (by omega)) ?_
  refine lv_aload_n hx hb dX7_thunkStride_5 rfl (lv_at hl 0 rfl) ?_
  refine va_get (D := D) (T := TX7) (N := 8) hx hb hts jnX7 hown hK hP q1 h1 rfl 6 (by decide) (hts _ fl_X7_46) (fun _ h9 => h9) rfl dX7_thunkStride_6 ?_
  refine lv_i2l (v := lN (2 ^ n2)) hx hb dX7_thunkStride_9 (nI_l (by omega)) ?_
  refine rk_l (run_sn (As := [.long (lN n1), .long (lN (2 ^ n2))]) (rest := []) hx hb hml hown hO.2 (c_X8_alignUp l D y (a0 := n1) (k0 := n2) (by omega) (by omega)) k_X8_alignUp mn_X7_69 ⟨rfl, rfl⟩ ⟨Nat.le_of_ble_eq_true rfl, Nat.le_of_ble_eq_true rfl⟩ (pre_SR hO hP) rfl hl.1 rfl (Nat.le_of_ble_eq_true rfl) dX7_thunkStride_10 ⟨(Nat.zero_le _), (Nat.zero_le _)⟩) (fun r10 er10 => ?_)
  try dsimp only at er10
  refine W.lret (v := r10) hx hb hr (fun t ht hW => ⟨_, rfl, ?_, ht⟩) (fun _ h => nomatch h) dX7_thunkStride_13
  exact er10
set_option maxHeartbeats 4000000 in
set_option maxRecDepth 100000 in
theorem c_X6_numberOf (l : Launch) (D : va_G) (y : Nat → ClassId) {ws : va_W} {f2 : Nat → Int32} {q1 a1 : Nat} {z1_0 z1_1 z1_2 z1_3 z1_4 z1_5 z1_6 z1_7 z1_8 z1_9 : Value} {q2 a2 : Nat} (h1 : ws[q1]? = some (a1, .inr (6, [z1_0, z1_1, z1_2, z1_3, z1_4, z1_5, z1_6, z1_7, z1_8, z1_9, .ref a2]))) (h2 : ws[q2]? = some (a2, .inl (y 0, 2400, .inl f2))) {s0 l0 : Nat} (hs : s0 < 40) (hl0 : l0 < 60) : Met l yX6_numberOf [.code yX6_numberOf cX6_numberOf 3 (some .int)] ({ frames := 0, cells := 0, slots := 0, locals := 0 }) (va_Pc [.ref a1, .int (nI s0), .int (nI l0)] (PR D y ws)) (vp_Si (fun r => r = f2 (s0 * 60 + l0))) 0 0 (fun _ => False) := by
  refine Met.ofW (cc := cX6_numberOf) (maxL := 3) (ret := (some .int)) (by decide) rfl ?_
  intro p e s m args below meth c s₁ B hml hv
  obtain ⟨rfl, hP, hO⟩ := hv
  have hx := B.exec
  have hb := B.bytes
  have hr := B.returns
  have hown : s.vm.findClass RX6 = some m.cls := findClass_of_methodNamed B.named
  have hlocks := B.notSynchronized
  have hK := hO.1
  have hts : ∀ w ∈ lw_E, w.before ([.ref a1, .int (nI s0), .int (nI l0)] : List Value).toArray s = true := fun w h => hO.2 w h _
  clear B
  have hl := lv_entry ([.ref a1, .int (nI s0), .int (nI l0)]) (n := 3) (Nat.le_of_ble_eq_true rfl)
  rw [lg_entry_eq]
  generalize (lg_sl ([.ref a1, .int (nI s0), .int (nI l0)]) ++ List.replicate (3 - (lg_sl ([.ref a1, .int (nI s0), .int (nI l0)])).length) Slot.unset).toArray = ls at hl ⊢
  have hl : lv_has ls 3 [(0, .ref a1), (1, .int (nI s0)), (2, .int (nI l0))] := hl
  refine lv_aload_n hx hb dX6_numberOf_0 rfl (lv_at hl 0 rfl) ?_
  refine va_get (D := D) (T := TX6) (N := 11) hx hb hts jnX6 hown hK hP q1 h1 rfl 10 (by decide) (hts _ fl_X6_44) (fun _ h9 => h9) rfl dX6_numberOf_1 ?_
  refine lv_iload_n hx hb dX6_numberOf_4 rfl (lv_at hl 1 rfl) ?_
  refine lv_bipush (v := 60) hx hb dX6_numberOf_5 (by decide) ?_
  refine lv_imul hx hb dX6_numberOf_7 ?_
  refine lv_topi (fun v7 ev7 => ?_)
  obtain rfl : v7 = (nI (s0 * 60)) := by
    rw [ev7, show (60 : Int32) = nI 60 from rfl, pk_mul]
  refine lv_iload_n hx hb dX6_numberOf_8 rfl (lv_at hl 2 rfl) ?_
  refine lv_iadd hx hb dX6_numberOf_9 ?_
  refine lv_topi (fun v9 ev9 => ?_)
  obtain rfl : v9 = (nI (s0 * 60 + l0)) := by
    rw [ev9, nI_add]
  refine va_iald (D := D) hx hb hK hP q2 0 h2 rfl (vp_in_nI (by omega) (by omega)) dX6_numberOf_10 ?_
  rw [nI_clamp (n := s0 * 60 + l0) (by omega)]
  refine lv_topi (fun v10 ev10 => ?_)
  refine W.iret (v := v10) hx hb hr (fun t ht hW => ⟨_, rfl, ?_, ht⟩) (fun _ h => nomatch h) dX6_numberOf_11
  subst_vars
  rfl
set_option maxHeartbeats 4000000 in
set_option maxRecDepth 100000 in
theorem c_X6_isMade (l : Launch) (D : va_G) (y : Nat → ClassId) {ws : va_W} {n1 : Int32} {f2 : Nat → Int32} {q1 a1 : Nat} {z1_1 z1_2 z1_3 z1_4 z1_5 z1_6 z1_7 z1_8 z1_9 : Value} {q2 a2 : Nat} (h1 : ws[q1]? = some (a1, .inr (6, [.int n1, z1_1, z1_2, z1_3, z1_4, z1_5, z1_6, z1_7, z1_8, z1_9, .ref a2]))) (h2 : ws[q2]? = some (a2, .inl (y 0, 2400, .inl f2))) {s0 l0 : Nat} (hs : s0 < 40) (hl0 : l0 < 60) : Met l yX6_isMade [.code yX6_isMade cX6_isMade 3 (some .boolean)] ({ frames := 1, cells := 0, slots := 0, locals := 22 }) (va_Pc [.ref a1, .int (nI s0), .int (nI l0)] (PR D y ws)) (vp_Si (fun r => r = if ¬ f2 (s0 * 60 + l0) < 0 ∧ ¬ n1 ≤ f2 (s0 * 60 + l0) then 1 else 0)) 0 0 (fun _ => False) := by
  refine Met.ofW (cc := cX6_isMade) (maxL := 3) (ret := (some .boolean)) (by decide) rfl ?_
  intro p e s m args below meth c s₁ B hml hv
  obtain ⟨rfl, hP, hO⟩ := hv
  have hx := B.exec
  have hb := B.bytes
  have hr := B.returns
  have hown : s.vm.findClass RX6 = some m.cls := findClass_of_methodNamed B.named
  have hlocks := B.notSynchronized
  have hK := hO.1
  have hts : ∀ w ∈ lw_E, w.before ([.ref a1, .int (nI s0), .int (nI l0)] : List Value).toArray s = true := fun w h => hO.2 w h _
  clear B
  have hl := lv_entry ([.ref a1, .int (nI s0), .int (nI l0)]) (n := 3) (Nat.le_of_ble_eq_true rfl)
  rw [lg_entry_eq]
  generalize (lg_sl ([.ref a1, .int (nI s0), .int (nI l0)]) ++ List.replicate (3 - (lg_sl ([.ref a1, .int (nI s0), .int (nI l0)])).length) Slot.unset).toArray = ls at hl ⊢
  have hl : lv_has ls 3 [(0, .ref a1), (1, .int (nI s0)), (2, .int (nI l0))] := hl
  refine lv_aload_n hx hb dX6_isMade_0 rfl (lv_at hl 0 rfl) ?_
  refine lv_aload_n hx hb dX6_isMade_1 rfl (lv_at hl 0 rfl) ?_
  refine lv_iload_n hx hb dX6_isMade_2 rfl (lv_at hl 1 rfl) ?_
  refine lv_iload_n hx hb dX6_isMade_3 rfl (lv_at hl 2 rfl) ?_
  refine rk_i (run_v (As := [.int (nI s0), .int (nI l0)]) (rest := [.ref a1]) (b := a1) hx hb hml hown hO.2 (c_X6_numberOf l D y h1 h2 hs hl0) k_X6_numberOf ml_X6_53 ⟨rfl, rfl⟩ ⟨Nat.le_of_ble_eq_true rfl, Nat.le_of_ble_eq_true rfl⟩ (pre_VR hO hP h1 rfl) rfl hl.1 rfl (Nat.le_of_ble_eq_true rfl) dX6_isMade_4 ⟨(Nat.zero_le _), (Nat.zero_le _)⟩) (fun r4 er4 => ?_)
  try dsimp only at er4
  obtain rfl : r4 = (f2 (s0 * 60 + l0)) := by
    exact er4
  refine rk_i (run_v (As := [.int (f2 (s0 * 60 + l0))]) (rest := []) (b := a1) hx hb hml hown hO.2 (c_X6_has l D y h1 (f2 (s0 * 60 + l0))) k_X6_has ml_X6_57 ⟨rfl, rfl⟩ ⟨Nat.le_of_ble_eq_true rfl, Nat.le_of_ble_eq_true rfl⟩ (pre_VR hO hP h1 rfl) rfl hl.1 rfl (Nat.le_of_ble_eq_true rfl) dX6_isMade_7 ⟨(Nat.zero_le _), (Nat.zero_le _)⟩) (fun r7 er7 => ?_)
  try dsimp only at er7
  refine W.zret (v := r7) hx hb hr (if01_narrow er7) (fun t ht hW => ⟨_, rfl, ?_, ht⟩) (fun _ h => nomatch h) dX6_isMade_10
  exact er7
set_option maxHeartbeats 4000000 in
set_option maxRecDepth 100000 in
theorem c_X6_isWanted (l : Launch) (D : va_G) (y : Nat → ClassId) {ws : va_W} {n1 : Int32} {f2 : Nat → Int32} {q1 a1 : Nat} {z1_1 z1_2 z1_3 z1_4 z1_5 z1_6 z1_7 z1_8 z1_9 : Value} {q2 a2 : Nat} (h1 : ws[q1]? = some (a1, .inr (6, [.int n1, z1_1, z1_2, z1_3, z1_4, z1_5, z1_6, z1_7, z1_8, z1_9, .ref a2]))) (h2 : ws[q2]? = some (a2, .inl (y 0, 2400, .inl f2))) {s0 l0 : Nat} (hs : s0 < 40) (hl0 : l0 < 60) : Met l yX6_isWanted [.code yX6_isWanted cX6_isWanted 3 (some .boolean)] ({ frames := 1, cells := 0, slots := 0, locals := 22 }) (va_Pc [.ref a1, .int (nI s0), .int (nI l0)] (PR D y ws)) (vp_Si (fun r => r = if ¬ f2 (s0 * 60 + l0) < n1 then 1 else 0)) 0 0 (fun _ => False) := by
  refine Met.ofW (cc := cX6_isWanted) (maxL := 3) (ret := (some .boolean)) (by decide) rfl ?_
  intro p e s m args below meth c s₁ B hml hv
  obtain ⟨rfl, hP, hO⟩ := hv
  have hx := B.exec
  have hb := B.bytes
  have hr := B.returns
  have hown : s.vm.findClass RX6 = some m.cls := findClass_of_methodNamed B.named
  have hlocks := B.notSynchronized
  have hK := hO.1
  have hts : ∀ w ∈ lw_E, w.before ([.ref a1, .int (nI s0), .int (nI l0)] : List Value).toArray s = true := fun w h => hO.2 w h _
  clear B
  have hl := lv_entry ([.ref a1, .int (nI s0), .int (nI l0)]) (n := 3) (Nat.le_of_ble_eq_true rfl)
  rw [lg_entry_eq]
  generalize (lg_sl ([.ref a1, .int (nI s0), .int (nI l0)]) ++ List.replicate (3 - (lg_sl ([.ref a1, .int (nI s0), .int (nI l0)])).length) Slot.unset).toArray = ls at hl ⊢
  have hl : lv_has ls 3 [(0, .ref a1), (1, .int (nI s0)), (2, .int (nI l0))] := hl
  refine lv_aload_n hx hb dX6_isWanted_0 rfl (lv_at hl 0 rfl) ?_
  refine lv_iload_n hx hb dX6_isWanted_1 rfl (lv_at hl 1 rfl) ?_
  refine lv_iload_n hx hb dX6_isWanted_2 rfl (lv_at hl 2 rfl) ?_
  refine rk_i (run_v (As := [.int (nI s0), .int (nI l0)]) (rest := []) (b := a1) hx hb hml hown hO.2 (c_X6_numberOf l D y h1 h2 hs hl0) k_X6_numberOf ml_X6_53 ⟨rfl, rfl⟩ ⟨Nat.le_of_ble_eq_true rfl, Nat.le_of_ble_eq_true rfl⟩ (pre_VR hO hP h1 rfl) rfl hl.1 rfl (Nat.le_of_ble_eq_true rfl) dX6_isWanted_3 ⟨(Nat.zero_le _), (Nat.zero_le _)⟩) (fun r3 er3 => ?_)
  try dsimp only at er3
  obtain rfl : r3 = (f2 (s0 * 60 + l0)) := by
    exact er3
  refine lv_aload_n hx hb dX6_isWanted_6 rfl (lv_at hl 0 rfl) ?_
  refine va_get (D := D) (T := TX6) (N := 11) hx hb hts jnX6 hown hK hP q1 h1 rfl 0 (by decide) (hts _ fl_X6_9) (fun _ h9 => h9) rfl dX6_isWanted_7 ?_
  refine lv_icmp_lt (tgt := 17) hx hb dX6_isWanted_10 (by decide) (fun c10 => ?_) (fun c10 => ?_)
  · skip
    refine lv_iconst (v := 0) hx hb dX6_isWanted_17 (by decide) ?_
    refine W.zret (v := 0) hx hb hr (by decide) (fun t ht hW => ⟨_, rfl, ?_, ht⟩) (fun _ h => nomatch h) dX6_isWanted_18
    simp [*]
  · skip
    refine lv_iconst (v := 1) hx hb dX6_isWanted_13 (by decide) ?_
    refine lv_goto (tgt := 18) hx hb dX6_isWanted_14 (by decide) ?_
    refine W.zret (v := 1) hx hb hr (by decide) (fun t ht hW => ⟨_, rfl, ?_, ht⟩) (fun _ h => nomatch h) dX6_isWanted_18
    simp [*]
