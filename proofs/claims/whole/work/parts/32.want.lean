def isCap (c : Nat) : Prop := c = 16 ∨ c = 32 ∨ c = 64 ∨ c = 128 ∨ c = 256 ∨ c = 512 ∨ c = 1024 ∨ c = 2048 ∨ c = 2400
def capN (c n : Nat) : Nat := if n < c then c else gN c
theorem grow_room {c : Nat} (h : isCap c) (h2 : c < 2400) : c + 7 ≤ gN c ∧ 7 * gN c ≤ 50 * (gN c - c) ∧ isCap (gN c) ∧ gN c ≤ 2400 := by
  rcases h with rfl | rfl | rfl | rfl | rfl | rfl | rfl | rfl | rfl
  all_goals first | (simp [gN, isCap]; done) | omega
theorem cap_ge {c : Nat} (h : isCap c) : 16 ≤ c ∧ c ≤ 2400 := by
  rcases h with rfl | rfl | rfl | rfl | rfl | rfl | rfl | rfl | rfl <;> omega
theorem thA_last (L : List Th) (x : Th) : thA (L ++ [x]) L.length = x := by
  unfold thA
  simp [List.getD_eq_getElem?_getD]
theorem fnd_last {L : List Th} {x : Th} {s l : Nat} : fnd (L ++ [x]) s l = match fnd L s l with
  | some t => some t
  | none => if isT s l x = true then some L.length else none := by
  rw [fnd_app]
  cases h : fnd L s l with
  | some t => simp
  | none =>
    by_cases h2 : isT s l x = true
    · simp [fnd, List.findIdx?_cons, h2]
    · simp [fnd, List.findIdx?_cons, h2]
theorem TH_grow {I I' : Nat → Nat → Int32} {J J' : Nat → Nat → Int64} {T : Nat → Nat → Nat} {c c' : Nat} {M F : List Th} (h : TH I J T c M F) (he : EqX [39, 40, 41, 42, 43, 44] I I') (hc : c ≤ c') (hc2 : c' ≤ 2400) (hr : ∀ t, t < c → (I' 39 t = I 39 t ∧ I' 40 t = I 40 t ∧ I' 41 t = I 41 t ∧ I' 42 t = I 42 t ∧ I' 43 t = I 43 t ∧ I' 44 t = I 44 t) ∧ J' 45 t = J 45 t) : TH I' J' T c' M F := by
  obtain ⟨⟨h1, h2, h3, h4⟩, hA, hB, hC, hE⟩ := h
  have hML : M.length ≤ (M ++ F).length := by rw [List.length_append]; omega
  refine ⟨⟨?_, ?_, by omega, hc2⟩, ?_, ?_, ?_, ?_⟩
  · rw [he 38 (by decide)]; exact h1
  · rw [he 38 (by decide)]; exact h2
  · intro t ht
    obtain ⟨⟨g1, g2, g3, g4, g5, g6⟩, _⟩ := hr t (by omega)
    rw [g1, g2, g3, g4]
    exact hA t ht
  · intro t ht
    obtain ⟨⟨g1, g2, g3, g4, g5, g6⟩, _⟩ := hr t (by omega)
    rw [g6]
    exact hB t ht
  · intro s hs
    rw [he 46 (by decide)]
    exact hC s hs
  · intro s l hs hl
    rw [he 47 (by decide)]
    exact hE s l hs hl
theorem idx_inj {s l s' l' : Nat} (h1 : l < 60) (h2 : l' < 60) (h : s * 60 + l = s' * 60 + l') : s = s' ∧ l = l' := by omega
theorem TH_want {I : Nat → Nat → Int32} {J : Nat → Nat → Int64} {T : Nat → Nat → Nat} {c : Nat} {M F : List Th} {s0 l0 r0 b0 : Nat} (h : TH I J T c M F) (hn : (M ++ F).length < c) (hs : s0 < 40) (hl : l0 < 60) (hno : inB (M ++ F) s0 l0 = false) {I1 I2 I3 I4 I5 I6 I7 : Nat → Nat → Int32} (e1 : va_up I 39 (upd (I 39) (M ++ F).length (nI s0)) = I1) (e2 : va_up I1 40 (upd (I1 40) (M ++ F).length (nI l0)) = I2) (e3 : va_up I2 41 (upd (I2 41) (M ++ F).length (nI r0)) = I3) (e4 : va_up I3 42 (upd (I3 42) (M ++ F).length (nI b0)) = I4) (e5 : va_up I4 43 (upd (I4 43) (M ++ F).length 0) = I5) (e6 : va_up I5 47 (upd (I5 47) (s0 * 60 + l0) (nI (M ++ F).length)) = I6) (e7 : va_up I6 38 (upd (I6 38) 1 (nI ((M ++ F).length + 1))) = I7) : TH I7 J T c M (F ++ [(s0, l0, r0, b0)]) ∧ (∀ t, t < (M ++ F).length → I7 43 t = I 43 t) ∧ I7 43 (M ++ F).length = 0 ∧ EqX [38, 39, 40, 41, 42, 43, 47] I I7 := by
  obtain ⟨⟨h1, h2, h3, h4⟩, hA, hB, hC, hE⟩ := h
  subst e1 e2 e3 e4 e5 e6 e7
  generalize hW : M ++ F = L at *
  have hML : M.length ≤ L.length := by rw [← hW, List.length_append]; omega
  refine ⟨⟨⟨?_, ?_, ?_, h4⟩, ?_, ?_, ?_, ?_⟩, ?_, ?_, ?_⟩
  · simpa [va_up, upd] using h1
  · rw [← List.append_assoc, hW]
    simp [va_up, upd]
  · rw [← List.append_assoc, hW]
    simp
    omega
  · intro t ht
    rw [← List.append_assoc, hW] at ht ⊢
    rw [List.length_append, List.length_singleton] at ht
    rcases lt_s2 ht with rfl | ht3
    · rw [thA_last]
      simp [va_up, upd]
    · have hne : t ≠ L.length := by omega
      rw [thA_app ht3]
      simpa [va_up, upd, hne] using hA t ht3
  · intro t ht
    simpa [va_up, upd] using hB t ht
  · intro s hs
    simpa [va_up, upd] using hC s hs
  · intro s l hs2 hl2
    rw [← List.append_assoc, hW, fnd_last]
    by_cases hsl : s = s0 ∧ l = l0
    · obtain ⟨rfl, rfl⟩ := hsl
      rw [fnd_none.mpr hno]
      simp [va_up, upd, isT, oI]
    · have hne : s * 60 + l ≠ s0 * 60 + l0 := fun e => hsl (idx_inj hl2 hl e)
      have hnt : ¬ isT s l (s0, l0, r0, b0) = true := by
        simp [isT]
        intro e1 e2
        exact hsl ⟨e1.symm, e2.symm⟩
      have := hE s l hs2 hl2
      cases hf : fnd L s l with
      | some t =>
        rw [hf] at this
        simpa [va_up, upd, hne] using this
      | none =>
        rw [hf] at this
        simp only [hnt]
        simpa [va_up, upd, hne] using this
  · intro t ht
    have hne : t ≠ L.length := by omega
    simp [va_up, upd, hne]
  · simp [va_up, upd]
  · refine EqX.up (EqX.up (EqX.up (EqX.up (EqX.up (EqX.up (EqX.up EqX.rf ?_) ?_) ?_) ?_) ?_) ?_) ?_ <;> decide
set_option maxHeartbeats 4000000 in
set_option maxRecDepth 100000 in
theorem c_X6_want (l : Launch) (D : va_G) (y : Nat → ClassId) (ad : Nat → Nat) (cap : Nat → Nat) (I : Nat → Nat → Int32) (J : Nat → Nat → Int64) (sz : Nat) {T : Nat → Nat → Nat} {M F : List Th} (hTH : TH I J T (cap 0) M F) (hcp : isCap (cap 0)) (hn : (M ++ F).length < 2400) {s0 l0 r0 b0 : Nat} (hs0 : s0 < 40) (hl0 : l0 < 60) (hno : inB (M ++ F) s0 l0 = false) : Met l yX6_want [.code yX6_want cX6_want 6 none] ({ frames := 3, cells := (capN (cap 0) (M ++ F).length - cap 0), slots := (50 * (capN (cap 0) (M ++ F).length - cap 0)), locals := 83 }) (va_Pc [.ref (ad 38), .int (nI s0), .int (nI l0), .int (nI r0), .int (nI b0)] (PW D y (Wd y ad cap I J) sz)) (va_Qv (fun u : St4 => ∃ cap' I' J', u = (ad, cap', I', J') ∧ cap' 0 = capN (cap 0) (M ++ F).length ∧ TH I' J' T (cap' 0) M (F ++ [(s0, l0, r0, b0)]) ∧ EqX [38, 39, 40, 41, 42, 43, 44, 47] I I' ∧ EqJ [45] J J' ∧ (∀ t, t < M.length → J' 45 t = J 45 t) ∧ (∀ t, t < (M ++ F).length → I' 43 t = I 43 t) ∧ I' 43 (M ++ F).length = 0) (Aft D (Wt y) (Wd y ad cap I J) sz) (va_A (Wd y ad cap I J) sz)) (capN (cap 0) (M ++ F).length - cap 0) (50 * (capN (cap 0) (M ++ F).length - cap 0)) (va_A (Wd y ad cap I J) sz) := by
  refine Met.ofW (cc := cX6_want) (maxL := 6) (ret := none) (by decide) rfl ?_
  intro p e s m args below meth c s₁ B hml hv
  obtain ⟨rfl, rfl, hP, hD0, hO⟩ := hv
  have hx := B.exec
  have hb := B.bytes
  have hr := B.returns
  have hown : s.vm.findClass RX6 = some m.cls := findClass_of_methodNamed B.named
  have hlocks := B.notSynchronized
  have hK := hO.1
  have hts : ∀ w ∈ lw_E, w.before ([.ref (ad 38), .int (nI s0), .int (nI l0), .int (nI r0), .int (nI b0)] : List Value).toArray s = true := fun w h => hO.2 w h _
  clear B
  have hD := hD0.self (sz := s.heap.size)
  generalize hAe : va_A (Wd y ad cap I J) s.heap.size = A at hD ⊢
  have hA : ∀ q : Nat, s.heap.size ≤ q → A q := fun q h => by rw [← hAe]; exact Or.inr h
  have hS : va_S A s.heap s.heap [] := va_S.rf
  have hl := lv_entry ([.ref (ad 38), .int (nI s0), .int (nI l0), .int (nI r0), .int (nI b0)]) (n := 6) (Nat.le_of_ble_eq_true rfl)
  rw [lg_entry_eq]
  generalize (lg_sl ([.ref (ad 38), .int (nI s0), .int (nI l0), .int (nI r0), .int (nI b0)]) ++ List.replicate (6 - (lg_sl ([.ref (ad 38), .int (nI s0), .int (nI l0), .int (nI r0), .int (nI b0)])).length) Slot.unset).toArray = ls at hl ⊢
  have hl : lv_has ls 6 [(0, .ref (ad 38)), (1, .int (nI s0)), (2, .int (nI l0)), (3, .int (nI r0)), (4, .int (nI b0))] := hl
  obtain ⟨cg1, cg2⟩ := cap_ge hcp
  refine lv_aload_n hx hb dX6_want_0 rfl (lv_at hl 0 rfl) ?_
  refine va_get (D := D) (T := TX6) (N := 11) hx hb hts jnX6 hown hK hP 38 (wd_38 y ad cap I J) rfl 1 (by decide) (hts _ fl_X6_15) (fun _ h9 => h9) rfl dX6_want_1 ?_
  refine lv_topi (fun v1 ev1 => ?_)
  obtain rfl : v1 = (nI ((M ++ F).length)) := by
    rw [ev1]; exact hTH.1.2.1
  refine lv_sipush (v := 2400) hx hb dX6_want_4 (by decide) ?_
  refine lv_icmp_lt (tgt := 11) hx hb dX6_want_7 (by decide) (fun c7 => ?_) (fun c7 => ?_)
  · skip
    have c7 := (nI_ltI (a := ((M ++ F).length)) (b := 2400) (by omega) (by omega)).mp c7
    refine lv_aload_n hx hb dX6_want_11 rfl (lv_at hl 0 rfl) ?_
    refine va_get (D := D) (T := TX6) (N := 11) hx hb hts jnX6 hown hK hP 38 (wd_38 y ad cap I J) rfl 1 (by decide) (hts _ fl_X6_15) (fun _ h9 => h9) rfl dX6_want_12 ?_
    refine lv_topi (fun v12 ev12 => ?_)
    obtain rfl : v12 = (nI ((M ++ F).length)) := by
      rw [ev12]; exact hTH.1.2.1
    refine lv_aload_n hx hb dX6_want_15 rfl (lv_at hl 0 rfl) ?_
    refine va_get (D := D) (T := TX6) (N := 11) hx hb hts jnX6 hown hK hP 38 (wd_38 y ad cap I J) rfl 2 (by decide) (hts _ fl_X6_18) (fun _ h9 => h9) rfl dX6_want_16 ?_
    refine va_alen (D := D) (v := nI (cap 0)) hx hb hK hP 39 0 (wd_39 y ad cap I J) rfl rfl dX6_want_19 ?_
    refine lv_icmp_lt (tgt := 27) hx hb dX6_want_20 (by decide) (fun c20 => ?_) (fun c20 => ?_)
    · skip
      have c20 := (nI_ltI (a := ((M ++ F).length)) (b := (cap 0)) (by omega) (by omega)).mp c20
      have hcN : capN (cap 0) (M ++ F).length = cap 0 := by unfold capN; rw [if_pos c20]
      refine lv_aload_n hx hb dX6_want_27 rfl (lv_at hl 0 rfl) ?_
      refine va_get (D := D) (T := TX6) (N := 11) hx hb hts jnX6 hown hK hP 38 (wd_38 y ad cap I J) rfl 1 (by decide) (hts _ fl_X6_15) (fun _ h9 => h9) rfl dX6_want_28 ?_
      refine lv_topi (fun v28 ev28 => ?_)
      obtain rfl : v28 = (nI ((M ++ F).length)) := by
        rw [ev28]; exact hTH.1.2.1
      refine lv_istore (lv' := [(5, .int (nI ((M ++ F).length))), (0, .ref (ad 38)), (1, .int (nI s0)), (2, .int (nI l0)), (3, .int (nI r0)), (4, .int (nI b0))]) hx hb dX6_want_31 hl (by decide) rfl (fun ls hl => ?_)
      refine lv_aload_n hx hb dX6_want_33 rfl (lv_at hl 1 rfl) ?_
      refine va_get (D := D) (T := TX6) (N := 11) hx hb hts jnX6 hown hK hP 38 (wd_38 y ad cap I J) rfl 2 (by decide) (hts _ fl_X6_18) (fun _ h9 => h9) rfl dX6_want_34 ?_
      refine lv_iload hx hb dX6_want_37 (lv_at hl 0 rfl) ?_
      refine lv_iload_n hx hb dX6_want_39 rfl (lv_at hl 2 rfl) ?_
      refine va_iast (D := D) hx hb hK hP hD hS 39 0 (wd_39 y ad cap I J) rfl (vp_in_nI c20 (by omega)) dX6_want_40 (fun H locs hP hD hS => ?_)
      rw [nI_clamp (n := (M ++ F).length) (by omega)] at hP hD
      rw [ws_39] at hP hD
      generalize eI40 : va_up I 39 (upd (I 39) ((M ++ F).length) (nI s0)) = I40 at hP hD
      refine lv_aload_n hx hb dX6_want_41 rfl (lv_at hl 1 rfl) ?_
      refine va_get (D := D) (T := TX6) (N := 11) hx hb hts jnX6 hown hK hP 38 (wd_38 y ad cap I40 J) rfl 3 (by decide) (hts _ fl_X6_22) (fun _ h9 => h9) rfl dX6_want_42 ?_
      refine lv_iload hx hb dX6_want_45 (lv_at hl 0 rfl) ?_
      refine lv_iload_n hx hb dX6_want_47 rfl (lv_at hl 3 rfl) ?_
      refine va_iast (D := D) hx hb hK hP hD hS 40 0 (wd_40 y ad cap I40 J) rfl (vp_in_nI c20 (by omega)) dX6_want_48 (fun H locs hP hD hS => ?_)
      rw [nI_clamp (n := (M ++ F).length) (by omega)] at hP hD
      rw [ws_40] at hP hD
      generalize eI48 : va_up I40 40 (upd (I40 40) ((M ++ F).length) (nI l0)) = I48 at hP hD
      refine lv_aload_n hx hb dX6_want_49 rfl (lv_at hl 1 rfl) ?_
      refine va_get (D := D) (T := TX6) (N := 11) hx hb hts jnX6 hown hK hP 38 (wd_38 y ad cap I48 J) rfl 4 (by decide) (hts _ fl_X6_25) (fun _ h9 => h9) rfl dX6_want_50 ?_
      refine lv_iload hx hb dX6_want_53 (lv_at hl 0 rfl) ?_
      refine lv_iload_n hx hb dX6_want_55 rfl (lv_at hl 4 rfl) ?_
      refine va_iast (D := D) hx hb hK hP hD hS 41 0 (wd_41 y ad cap I48 J) rfl (vp_in_nI c20 (by omega)) dX6_want_56 (fun H locs hP hD hS => ?_)
      rw [nI_clamp (n := (M ++ F).length) (by omega)] at hP hD
      rw [ws_41] at hP hD
      generalize eI56 : va_up I48 41 (upd (I48 41) ((M ++ F).length) (nI r0)) = I56 at hP hD
      refine lv_aload_n hx hb dX6_want_57 rfl (lv_at hl 1 rfl) ?_
      refine va_get (D := D) (T := TX6) (N := 11) hx hb hts jnX6 hown hK hP 38 (wd_38 y ad cap I56 J) rfl 5 (by decide) (hts _ fl_X6_28) (fun _ h9 => h9) rfl dX6_want_58 ?_
      refine lv_iload hx hb dX6_want_61 (lv_at hl 0 rfl) ?_
      refine lv_iload hx hb dX6_want_63 (lv_at hl 5 rfl) ?_
      refine va_iast (D := D) hx hb hK hP hD hS 42 0 (wd_42 y ad cap I56 J) rfl (vp_in_nI c20 (by omega)) dX6_want_65 (fun H locs hP hD hS => ?_)
      rw [nI_clamp (n := (M ++ F).length) (by omega)] at hP hD
      rw [ws_42] at hP hD
      generalize eI65 : va_up I56 42 (upd (I56 42) ((M ++ F).length) (nI b0)) = I65 at hP hD
      refine lv_aload_n hx hb dX6_want_66 rfl (lv_at hl 1 rfl) ?_
      refine va_get (D := D) (T := TX6) (N := 11) hx hb hts jnX6 hown hK hP 38 (wd_38 y ad cap I65 J) rfl 6 (by decide) (hts _ fl_X6_31) (fun _ h9 => h9) rfl dX6_want_67 ?_
      refine lv_iload hx hb dX6_want_70 (lv_at hl 0 rfl) ?_
      refine lv_iconst (v := 0) hx hb dX6_want_72 (by decide) ?_
      refine va_iast (D := D) hx hb hK hP hD hS 43 0 (wd_43 y ad cap I65 J) rfl (vp_in_nI c20 (by omega)) dX6_want_73 (fun H locs hP hD hS => ?_)
      rw [nI_clamp (n := (M ++ F).length) (by omega)] at hP hD
      rw [ws_43] at hP hD
      generalize eI73 : va_up I65 43 (upd (I65 43) ((M ++ F).length) 0) = I73 at hP hD
      refine lv_aload_n hx hb dX6_want_74 rfl (lv_at hl 1 rfl) ?_
      refine va_get (D := D) (T := TX6) (N := 11) hx hb hts jnX6 hown hK hP 38 (wd_38 y ad cap I73 J) rfl 10 (by decide) (hts _ fl_X6_44) (fun _ h9 => h9) rfl dX6_want_75 ?_
      refine lv_iload_n hx hb dX6_want_78 rfl (lv_at hl 2 rfl) ?_
      refine lv_bipush (v := 60) hx hb dX6_want_79 (by decide) ?_
      refine lv_imul hx hb dX6_want_81 ?_
      refine lv_topi (fun v81 ev81 => ?_)
      obtain rfl : v81 = (nI (s0 * 60)) := by
        rw [ev81, show (60 : Int32) = nI 60 from rfl, pk_mul]
      refine lv_iload_n hx hb dX6_want_82 rfl (lv_at hl 3 rfl) ?_
      refine lv_iadd hx hb dX6_want_83 ?_
      refine lv_topi (fun v83 ev83 => ?_)
      obtain rfl : v83 = (nI ((s0 * 60) + l0)) := by rw [ev83, nI_add]
      refine lv_iload hx hb dX6_want_84 (lv_at hl 0 rfl) ?_
      refine va_iast (D := D) hx hb hK hP hD hS 47 0 (wd_47 y ad cap I73 J) rfl (vp_in_nI (by omega) (by omega)) dX6_want_86 (fun H locs hP hD hS => ?_)
      rw [nI_clamp (n := (s0 * 60) + l0) (by omega)] at hP hD
      rw [ws_47] at hP hD
      generalize eI86 : va_up I73 47 (upd (I73 47) ((s0 * 60) + l0) (nI ((M ++ F).length))) = I86 at hP hD
      refine lv_aload_n hx hb dX6_want_87 rfl (lv_at hl 1 rfl) ?_
      refine lv_dup hx hb dX6_want_88 rfl ?_
      refine va_get (D := D) (T := TX6) (N := 11) hx hb hts jnX6 hown hK hP 38 (wd_38 y ad cap I86 J) rfl 1 (by decide) (hts _ fl_X6_15) (fun _ h9 => h9) rfl dX6_want_89 ?_
      refine lv_topi (fun v89 ev89 => ?_)
      obtain rfl : v89 = (nI ((M ++ F).length)) := by
        rw [ev89, ← eI86, ← eI73, ← eI65, ← eI56, ← eI48, ← eI40]; simpa [va_up] using hTH.1.2.1
      refine lv_iconst (v := 1) hx hb dX6_want_92 (by decide) ?_
      refine lv_iadd hx hb dX6_want_93 ?_
      refine lv_topi (fun v93 ev93 => ?_)
      obtain rfl : v93 = (nI (((M ++ F).length) + 1)) := by rw [ev93, show (1 : Int32) = nI 1 from rfl, nI_add]
      refine va_put (D := D) (T := TX6) (N := 11) (v := .int (nI (((M ++ F).length) + 1))) (ty := .int) hx hb hts jnX6 tyX6 tyX6_ok nmX6 hown hK hP hD hS 38 (wd_38 y ad cap I86 J) rfl 1 (by decide) (hts _ fl_X6_15) (fun _ h9 => h9) rfl (by decide +kernel) rfl rfl (Nat.le_of_ble_eq_true rfl) dX6_want_94 (fun H locs hP hD hS => ?_)
      rw [wp_38_1] at hP hD
      generalize eI94 : va_up I86 38 (upd (I86 38) 1 (nI (((M ++ F).length) + 1))) = I94 at hP hD
      refine W.widen (k := capN (cap 0) (M ++ F).length - cap 0) (n := 50 * (capN (cap 0) (M ++ F).length - cap 0)) (by omega) (by omega) ?_
      refine W.vret hx hb hr (fun t ht hW => ⟨⟨(ad, cap, I94, J), rfl, ?_, by rw [ht]; exact hP, by show va_D (va_A (Wd y ad cap I J) s.heap.size) _; rw [hAe]; exact hD⟩, hS.F ht⟩) hS.2.2 dX6_want_97
      obtain ⟨g1, g2, g3, g4⟩ := TH_want (s0 := s0) (l0 := l0) (r0 := r0) (b0 := b0) hTH c20 hs0 hl0 hno eI40 eI48 eI56 eI65 eI73 eI86 eI94
      exact ⟨cap, I94, J, rfl, hcN.symm, g1, EqX.tr2 (S1 := []) EqX.rf g4 (by decide) (by decide), EqJ.rf, fun _ _ => rfl, g2, g3⟩
    · skip
      have c20 := mt (nI_ltI (a := ((M ++ F).length)) (b := (cap 0)) (by omega) (by omega)).mpr c20
      have hcN : capN (cap 0) (M ++ F).length = gN (cap 0) := by unfold capN; rw [if_neg c20]
      obtain ⟨gr1, gr2, gr3, gr4⟩ := grow_room hcp (by have := hTH.1.2.2.1; omega)
      refine lv_aload_n hx hb dX6_want_23 rfl (lv_at hl 0 rfl) ?_
      refine wk_v (Wf := Wt y) (run_v (As := []) (rest := []) (b := (ad 38)) hx hb hml hown hO.2 (c_X6_grow l D y ad cap I J s.heap.size (by omega) (by omega)) k_X6_grow ml_X6_61 ⟨rfl, rfl⟩ ⟨Nat.le_of_ble_eq_true rfl, Nat.le_of_ble_eq_true rfl⟩ (pre_VW hO hP hD (wd_38 y ad cap I J) rfl) rfl hl.1 rfl (Nat.le_of_ble_eq_true rfl) dX6_want_24 ⟨(by show 0 + 7 ≤ capN (cap 0) (M ++ F).length - cap 0; omega), (by show 0 + 7 * gN (cap 0) ≤ 50 * (capN (cap 0) (M ++ F).length - cap 0); omega)⟩) hD hS hA (fun u24 H locs hp24 hP hD hS => ?_)
      try dsimp only at hp24
      obtain ⟨cap24, I24, J24, rfl, hc24, hE24, hEJ24, hR24⟩ := hp24
      have hTH24 := TH_grow (c' := cap24 0) hTH hE24 (by omega) (by omega) hR24
      rw [hc24] at hTH24
      have hP : va_P D vwCl (Wd y ad cap24 I24 J24) H := hP
      have hD : va_D A (Wd y ad cap24 I24 J24) := hD
      
      refine lv_aload_n hx hb dX6_want_27 rfl (lv_at hl 0 rfl) ?_
      refine va_get (D := D) (T := TX6) (N := 11) hx hb hts jnX6 hown hK hP 38 (wd_38 y ad cap24 I24 J24) rfl 1 (by decide) (hts _ fl_X6_15) (fun _ h9 => h9) rfl dX6_want_28 ?_
      refine lv_topi (fun v28 ev28 => ?_)
      obtain rfl : v28 = (nI ((M ++ F).length)) := by
        rw [ev28]; exact hTH24.1.2.1
      refine lv_istore (lv' := [(5, .int (nI ((M ++ F).length))), (0, .ref (ad 38)), (1, .int (nI s0)), (2, .int (nI l0)), (3, .int (nI r0)), (4, .int (nI b0))]) hx hb dX6_want_31 hl (by decide) rfl (fun ls hl => ?_)
      refine lv_aload_n hx hb dX6_want_33 rfl (lv_at hl 1 rfl) ?_
      refine va_get (D := D) (T := TX6) (N := 11) hx hb hts jnX6 hown hK hP 38 (wd_38 y ad cap24 I24 J24) rfl 2 (by decide) (hts _ fl_X6_18) (fun _ h9 => h9) rfl dX6_want_34 ?_
      refine lv_iload hx hb dX6_want_37 (lv_at hl 0 rfl) ?_
      refine lv_iload_n hx hb dX6_want_39 rfl (lv_at hl 2 rfl) ?_
      refine va_iast (D := D) hx hb hK hP hD hS 39 0 (wd_39 y ad cap24 I24 J24) rfl (vp_in_nI (by rw [hc24]; have := hTH.1.2.2.1; omega) (by omega)) dX6_want_40 (fun H locs hP hD hS => ?_)
      rw [nI_clamp (n := (M ++ F).length) (by omega)] at hP hD
      rw [ws_39] at hP hD
      generalize eI40 : va_up I24 39 (upd (I24 39) ((M ++ F).length) (nI s0)) = I40 at hP hD
      refine lv_aload_n hx hb dX6_want_41 rfl (lv_at hl 1 rfl) ?_
      refine va_get (D := D) (T := TX6) (N := 11) hx hb hts jnX6 hown hK hP 38 (wd_38 y ad cap24 I40 J24) rfl 3 (by decide) (hts _ fl_X6_22) (fun _ h9 => h9) rfl dX6_want_42 ?_
      refine lv_iload hx hb dX6_want_45 (lv_at hl 0 rfl) ?_
      refine lv_iload_n hx hb dX6_want_47 rfl (lv_at hl 3 rfl) ?_
      refine va_iast (D := D) hx hb hK hP hD hS 40 0 (wd_40 y ad cap24 I40 J24) rfl (vp_in_nI (by rw [hc24]; have := hTH.1.2.2.1; omega) (by omega)) dX6_want_48 (fun H locs hP hD hS => ?_)
      rw [nI_clamp (n := (M ++ F).length) (by omega)] at hP hD
      rw [ws_40] at hP hD
      generalize eI48 : va_up I40 40 (upd (I40 40) ((M ++ F).length) (nI l0)) = I48 at hP hD
      refine lv_aload_n hx hb dX6_want_49 rfl (lv_at hl 1 rfl) ?_
      refine va_get (D := D) (T := TX6) (N := 11) hx hb hts jnX6 hown hK hP 38 (wd_38 y ad cap24 I48 J24) rfl 4 (by decide) (hts _ fl_X6_25) (fun _ h9 => h9) rfl dX6_want_50 ?_
      refine lv_iload hx hb dX6_want_53 (lv_at hl 0 rfl) ?_
      refine lv_iload_n hx hb dX6_want_55 rfl (lv_at hl 4 rfl) ?_
      refine va_iast (D := D) hx hb hK hP hD hS 41 0 (wd_41 y ad cap24 I48 J24) rfl (vp_in_nI (by rw [hc24]; have := hTH.1.2.2.1; omega) (by omega)) dX6_want_56 (fun H locs hP hD hS => ?_)
      rw [nI_clamp (n := (M ++ F).length) (by omega)] at hP hD
      rw [ws_41] at hP hD
      generalize eI56 : va_up I48 41 (upd (I48 41) ((M ++ F).length) (nI r0)) = I56 at hP hD
      refine lv_aload_n hx hb dX6_want_57 rfl (lv_at hl 1 rfl) ?_
      refine va_get (D := D) (T := TX6) (N := 11) hx hb hts jnX6 hown hK hP 38 (wd_38 y ad cap24 I56 J24) rfl 5 (by decide) (hts _ fl_X6_28) (fun _ h9 => h9) rfl dX6_want_58 ?_
      refine lv_iload hx hb dX6_want_61 (lv_at hl 0 rfl) ?_
      refine lv_iload hx hb dX6_want_63 (lv_at hl 5 rfl) ?_
      refine va_iast (D := D) hx hb hK hP hD hS 42 0 (wd_42 y ad cap24 I56 J24) rfl (vp_in_nI (by rw [hc24]; have := hTH.1.2.2.1; omega) (by omega)) dX6_want_65 (fun H locs hP hD hS => ?_)
      rw [nI_clamp (n := (M ++ F).length) (by omega)] at hP hD
      rw [ws_42] at hP hD
      generalize eI65 : va_up I56 42 (upd (I56 42) ((M ++ F).length) (nI b0)) = I65 at hP hD
      refine lv_aload_n hx hb dX6_want_66 rfl (lv_at hl 1 rfl) ?_
      refine va_get (D := D) (T := TX6) (N := 11) hx hb hts jnX6 hown hK hP 38 (wd_38 y ad cap24 I65 J24) rfl 6 (by decide) (hts _ fl_X6_31) (fun _ h9 => h9) rfl dX6_want_67 ?_
      refine lv_iload hx hb dX6_want_70 (lv_at hl 0 rfl) ?_
      refine lv_iconst (v := 0) hx hb dX6_want_72 (by decide) ?_
      refine va_iast (D := D) hx hb hK hP hD hS 43 0 (wd_43 y ad cap24 I65 J24) rfl (vp_in_nI (by rw [hc24]; have := hTH.1.2.2.1; omega) (by omega)) dX6_want_73 (fun H locs hP hD hS => ?_)
      rw [nI_clamp (n := (M ++ F).length) (by omega)] at hP hD
      rw [ws_43] at hP hD
      generalize eI73 : va_up I65 43 (upd (I65 43) ((M ++ F).length) 0) = I73 at hP hD
      refine lv_aload_n hx hb dX6_want_74 rfl (lv_at hl 1 rfl) ?_
      refine va_get (D := D) (T := TX6) (N := 11) hx hb hts jnX6 hown hK hP 38 (wd_38 y ad cap24 I73 J24) rfl 10 (by decide) (hts _ fl_X6_44) (fun _ h9 => h9) rfl dX6_want_75 ?_
      refine lv_iload_n hx hb dX6_want_78 rfl (lv_at hl 2 rfl) ?_
      refine lv_bipush (v := 60) hx hb dX6_want_79 (by decide) ?_
      refine lv_imul hx hb dX6_want_81 ?_
      refine lv_topi (fun v81 ev81 => ?_)
      obtain rfl : v81 = (nI (s0 * 60)) := by
        rw [ev81, show (60 : Int32) = nI 60 from rfl, pk_mul]
      refine lv_iload_n hx hb dX6_want_82 rfl (lv_at hl 3 rfl) ?_
      refine lv_iadd hx hb dX6_want_83 ?_
      refine lv_topi (fun v83 ev83 => ?_)
      obtain rfl : v83 = (nI ((s0 * 60) + l0)) := by rw [ev83, nI_add]
      refine lv_iload hx hb dX6_want_84 (lv_at hl 0 rfl) ?_
      refine va_iast (D := D) hx hb hK hP hD hS 47 0 (wd_47 y ad cap24 I73 J24) rfl (vp_in_nI (by omega) (by omega)) dX6_want_86 (fun H locs hP hD hS => ?_)
      rw [nI_clamp (n := (s0 * 60) + l0) (by omega)] at hP hD
      rw [ws_47] at hP hD
      generalize eI86 : va_up I73 47 (upd (I73 47) ((s0 * 60) + l0) (nI ((M ++ F).length))) = I86 at hP hD
      refine lv_aload_n hx hb dX6_want_87 rfl (lv_at hl 1 rfl) ?_
      refine lv_dup hx hb dX6_want_88 rfl ?_
      refine va_get (D := D) (T := TX6) (N := 11) hx hb hts jnX6 hown hK hP 38 (wd_38 y ad cap24 I86 J24) rfl 1 (by decide) (hts _ fl_X6_15) (fun _ h9 => h9) rfl dX6_want_89 ?_
      refine lv_topi (fun v89 ev89 => ?_)
      obtain rfl : v89 = (nI ((M ++ F).length)) := by
        rw [ev89, ← eI86, ← eI73, ← eI65, ← eI56, ← eI48, ← eI40]; simpa [va_up] using hTH24.1.2.1
      refine lv_iconst (v := 1) hx hb dX6_want_92 (by decide) ?_
      refine lv_iadd hx hb dX6_want_93 ?_
      refine lv_topi (fun v93 ev93 => ?_)
      obtain rfl : v93 = (nI (((M ++ F).length) + 1)) := by rw [ev93, show (1 : Int32) = nI 1 from rfl, nI_add]
      refine va_put (D := D) (T := TX6) (N := 11) (v := .int (nI (((M ++ F).length) + 1))) (ty := .int) hx hb hts jnX6 tyX6 tyX6_ok nmX6 hown hK hP hD hS 38 (wd_38 y ad cap24 I86 J24) rfl 1 (by decide) (hts _ fl_X6_15) (fun _ h9 => h9) rfl (by decide +kernel) rfl rfl (Nat.le_of_ble_eq_true rfl) dX6_want_94 (fun H locs hP hD hS => ?_)
      rw [wp_38_1] at hP hD
      generalize eI94 : va_up I86 38 (upd (I86 38) 1 (nI (((M ++ F).length) + 1))) = I94 at hP hD
      refine W.widen (k := capN (cap 0) (M ++ F).length - cap 0) (n := 50 * (capN (cap 0) (M ++ F).length - cap 0)) (by omega) (by omega) ?_
      refine W.vret hx hb hr (fun t ht hW => ⟨⟨(ad, cap24, I94, J24), rfl, ?_, by rw [ht]; exact hP, by show va_D (va_A (Wd y ad cap I J) s.heap.size) _; rw [hAe]; exact hD⟩, hS.F ht⟩) hS.2.2 dX6_want_97
      obtain ⟨g1, g2, g3, g4⟩ := TH_want (s0 := s0) (l0 := l0) (r0 := r0) (b0 := b0) hTH24 (by have := hTH.1.2.2.1; omega) hs0 hl0 hno eI40 eI48 eI56 eI65 eI73 eI86 eI94
      refine ⟨cap24, I94, J24, rfl, by rw [hc24, hcN], by rw [hc24]; exact g1, ?_, hEJ24, ?_, ?_, g3⟩
      · exact EqX.tr2 hE24 g4 (by decide) (by decide)
      · intro t ht
        exact (hR24 t (by have := hTH.1.2.2.1; rw [List.length_append] at this; omega)).2
      · intro t ht
        rw [g2 t ht]
        exact (hR24 t (by have := hTH.1.2.2.1; omega)).1.2.2.2.2.1
  · skip
    have c7 := mt (nI_ltI (a := ((M ++ F).length)) (b := 2400) (by omega) (by omega)).mpr c7
    exact absurd hn c7
