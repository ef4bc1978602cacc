theorem app_at {ws : va_W} {x : Nat × va_E} : (ws ++ [x])[ws.length]? = some x := by simp
theorem app_lt {ws : va_W} {x p : Nat × va_E} {q : Nat} (h : ws[q]? = some p) : (ws ++ [x])[q]? = some p := by
  have : q < ws.length := (List.getElem?_eq_some_iff.mp h).1
  rw [List.getElem?_append_left this]
  exact h
theorem app_set {ws : va_W} {x x' : Nat × va_E} : (ws ++ [x]).set ws.length x' = ws ++ [x'] := by simp
theorem same_arr {D : va_G} {y : Nat → ClassId} {cA : ClassId} {s : State} {ty : FieldType} {k : Nat} (hk : (tysY y)[k]? = some (y k, ty)) (hR : ∀ c, va_RA s c ty = (s.vm.findClass ("[" ++ ty.toString) = some c)) (h : va_K D vwCl (tysY y ++ [(cA, ty)]) s) : cA = y k := by
  have h1 := (h.2 3 (cA, ty) rfl).2
  have hlt : k < (tysY y).length := (List.getElem?_eq_some_iff.mp hk).1
  have h2 := (h.2 k (y k, ty) (by rw [List.getElem?_append_left hlt]; exact hk)).2
  rw [hR] at h1 h2
  exact Option.some.inj (h1.symm.trans h2)
set_option maxHeartbeats 4000000 in
set_option maxRecDepth 100000 in
theorem c_copyI (l : Launch) (D : va_G) (y : Nat → ClassId) {ws : va_W} (sz : Nat) {q1 a1 len : Nat} {f : Nat → Int32} (h1 : ws[q1]? = some (a1, .inl (y 0, len, .inl f))) {n1 : Nat} (hlen : len < n1) (hn : n1 ≤ 2400) : Met l yJ7_copyOf_59c91 [.code yJ7_copyOf_59c91 cJ7_copyOf_59c91 3 (some (.array .int))] { frames := 1, cells := 1, slots := n1, locals := 40 } (va_Pc [.ref a1, .int (nI n1)] (PW D y ws sz)) (va_Qr (fun _ : Unit => True) (fun _ a t => va_P D vwCl (ws ++ [(a, .inl (y 0, n1, .inl (va_cpy f (fun _ => 0) 0 0 len)))]) t.heap ∧ va_D (va_A ws sz) (ws ++ [(a, .inl (y 0, n1, .inl (va_cpy f (fun _ => 0) 0 0 len)))])) (va_A ws sz)) 1 n1 (va_A ws sz) := by
  refine Met.ofW (cc := cJ7_copyOf_59c91) (maxL := 3) (ret := (some (.array .int))) (by decide) rfl ?_
  intro p e s m args below meth c s₁ B hml hv
  obtain ⟨rfl, rfl, hP, hD0, hO⟩ := hv
  have hx := B.exec
  have hb := B.bytes
  have hr := B.returns
  have hown : s.vm.findClass RJ7 = some m.cls := findClass_of_methodNamed B.named
  have hlocks := B.notSynchronized
  have hK := hO.1
  have hts : ∀ w ∈ lw_E, w.before ([.ref a1, .int (nI n1)] : List Value).toArray s = true := fun w h => hO.2 w h _
  clear B
  have hD := hD0.self (sz := s.heap.size)
  have hA : ∀ q : Nat, s.heap.size ≤ q → va_A ws s.heap.size q := fun q h => Or.inr h
  have hS : va_S (va_A ws s.heap.size) s.heap s.heap [] := va_S.rf
  have hl := lv_entry ([.ref a1, .int (nI n1)]) (n := 3) (Nat.le_of_ble_eq_true rfl)
  rw [lg_entry_eq]
  generalize (lg_sl ([.ref a1, .int (nI n1)]) ++ List.replicate (3 - (lg_sl ([.ref a1, .int (nI n1)])).length) Slot.unset).toArray = ls at hl ⊢
  have hl : lv_has ls 3 [(0, .ref a1), (1, .int (nI n1))] := hl
  refine lv_iload_n hx hb dJ7_copyOf_59c91_0 rfl (lv_at hl 1 rfl) ?_
  refine lv_aload_n hx hb dJ7_copyOf_59c91_1 rfl (lv_at hl 0 rfl) ?_
  refine va_alen (D := D) (v := nI len) hx hb hK hP q1 0 h1 rfl rfl dJ7_copyOf_59c91_2 ?_
  refine lv_icmp_ne (tgt := 14) hx hb dJ7_copyOf_59c91_3 (by decide) (fun c3 => ?_) (fun c3 => ?_)
  · refine lv_iload_n hx hb dJ7_copyOf_59c91_14 rfl (lv_at hl 1 rfl) ?_
    refine va_newa (D := D) (atype := .int) (ty := .int) (N' := n1) (a0 := (n1, .inl (fun _ => 0))) hx hb (hts _ ac_int) rfl hK hP hD hS hA (fun _ => rfl) (nI_pos (by omega)) (nI_clamp (by omega)) (by simp only [componentBytes]; omega) (by show 0 + 1 ≤ 1; omega) (by show 0 + n1 ≤ n1; omega) dJ7_copyOf_59c91_15 (fun q cA H hK2 hP hD hS => ?_)
    obtain rfl := same_arr (k := 0) rfl (fun _ => rfl) hK2
    refine lv_astore_n (lv' := [(2, .ref q), (0, .ref a1), (1, .int (nI n1))]) hx hb dJ7_copyOf_59c91_17 rfl hl (by decide) rfl (fun ls hl => ?_)
    refine lv_aload_n hx hb dJ7_copyOf_59c91_18 rfl (lv_at hl 1 rfl) ?_
    refine lv_iconst (v := 0) hx hb dJ7_copyOf_59c91_19 (by decide) ?_
    refine lv_aload_n hx hb dJ7_copyOf_59c91_20 rfl (lv_at hl 0 rfl) ?_
    refine lv_iconst (v := 0) hx hb dJ7_copyOf_59c91_21 (by decide) ?_
    refine lv_aload_n hx hb dJ7_copyOf_59c91_22 rfl (lv_at hl 1 rfl) ?_
    refine va_alen (D := D) (v := nI len) hx hb hK hP q1 0 (app_lt h1) rfl rfl dJ7_copyOf_59c91_23 ?_
    refine lv_iload_n hx hb dJ7_copyOf_59c91_24 rfl (lv_at hl 2 rfl) ?_
    refine va_mmin hx hb (by rw [hml]; exact hl.1.symm) hown (hts _ ml_J7_304) (hts _ sc_J9_min_7cf53) (hts _ ini_J9) (hts _ cd_J9_min_7cf53) (Nat.le_of_ble_eq_true rfl) (Nat.le_of_ble_eq_true rfl) (by show 0 + 1 ≤ 1; omega) (by show 0 + n1 ≤ n1; omega) dJ7_copyOf_59c91_25 ?_
    rw [if_neg (show ¬ nI n1 < nI len by rw [nI_ltI (by omega) (by omega)]; omega)]
    refine va_copyi (D := D) hx hb (by rw [hml]; exact hl.1.symm) hown (hts _ ml_J7_150) (hts _ nt_J10_arraycopy) (hts _ sc_J10_arraycopy) (hts _ ini_J10) hK hP hD hS q1 ws.length 0 0 (app_lt h1) app_at rfl rfl rfl (by decide) (by decide) (nI_pos (by omega)) (by rw [nI_clamp (by omega)]; simp) (by rw [nI_clamp (by omega)]; simp; omega) (fun _ _ => rfl) (Nat.le_of_ble_eq_true rfl) (Nat.le_of_ble_eq_true rfl) dJ7_copyOf_59c91_28 (fun H locs hP hD hS => ?_)
    rw [app_set, nI_clamp (n := len) (by omega)] at hP hD
    refine lv_aload_n hx hb dJ7_copyOf_59c91_31 rfl (lv_at hl 0 rfl) ?_
    refine W.widen (k := 1) (n := n1) (by omega) (by omega) ?_
    exact W.aret (v := .ref q) hx hb hr (Or.inr ⟨_, rfl⟩) (Or.inr ⟨_, rfl⟩) (fun t ht hW => ⟨⟨(), q, rfl, trivial, by rw [ht]; exact hP, hD⟩, hS.F ht⟩) hS.2.2 dJ7_copyOf_59c91_32
  · exact absurd ((nI_eq (by omega) (by omega)).mp c3) (by omega)
set_option maxHeartbeats 4000000 in
set_option maxRecDepth 100000 in
theorem c_copyL (l : Launch) (D : va_G) (y : Nat → ClassId) {ws : va_W} (sz : Nat) {q1 a1 len : Nat} {f : Nat → Int64} (h1 : ws[q1]? = some (a1, .inl (y 1, len, .inr (.inl f)))) {n1 : Nat} (hlen : len < n1) (hn : n1 ≤ 2400) : Met l yJ7_copyOf_c38d5 [.code yJ7_copyOf_c38d5 cJ7_copyOf_c38d5 3 (some (.array .long))] { frames := 1, cells := 1, slots := n1, locals := 40 } (va_Pc [.ref a1, .int (nI n1)] (PW D y ws sz)) (va_Qr (fun _ : Unit => True) (fun _ a t => va_P D vwCl (ws ++ [(a, .inl (y 1, n1, .inr (.inl (va_cpy f (fun _ => 0) 0 0 len))))]) t.heap ∧ va_D (va_A ws sz) (ws ++ [(a, .inl (y 1, n1, .inr (.inl (va_cpy f (fun _ => 0) 0 0 len))))])) (va_A ws sz)) 1 n1 (va_A ws sz) := by
  refine Met.ofW (cc := cJ7_copyOf_c38d5) (maxL := 3) (ret := (some (.array .long))) (by decide) rfl ?_
  intro p e s m args below meth c s₁ B hml hv
  obtain ⟨rfl, rfl, hP, hD0, hO⟩ := hv
  have hx := B.exec
  have hb := B.bytes
  have hr := B.returns
  have hown : s.vm.findClass RJ7 = some m.cls := findClass_of_methodNamed B.named
  have hlocks := B.notSynchronized
  have hK := hO.1
  have hts : ∀ w ∈ lw_E, w.before ([.ref a1, .int (nI n1)] : List Value).toArray s = true := fun w h => hO.2 w h _
  clear B
  have hD := hD0.self (sz := s.heap.size)
  have hA : ∀ q : Nat, s.heap.size ≤ q → va_A ws s.heap.size q := fun q h => Or.inr h
  have hS : va_S (va_A ws s.heap.size) s.heap s.heap [] := va_S.rf
  have hl := lv_entry ([.ref a1, .int (nI n1)]) (n := 3) (Nat.le_of_ble_eq_true rfl)
  rw [lg_entry_eq]
  generalize (lg_sl ([.ref a1, .int (nI n1)]) ++ List.replicate (3 - (lg_sl ([.ref a1, .int (nI n1)])).length) Slot.unset).toArray = ls at hl ⊢
  have hl : lv_has ls 3 [(0, .ref a1), (1, .int (nI n1))] := hl
  refine lv_iload_n hx hb dJ7_copyOf_c38d5_0 rfl (lv_at hl 1 rfl) ?_
  refine lv_aload_n hx hb dJ7_copyOf_c38d5_1 rfl (lv_at hl 0 rfl) ?_
  refine va_alen (D := D) (v := nI len) hx hb hK hP q1 1 h1 rfl rfl dJ7_copyOf_c38d5_2 ?_
  refine lv_icmp_ne (tgt := 14) hx hb dJ7_copyOf_c38d5_3 (by decide) (fun c3 => ?_) (fun c3 => ?_)
  · refine lv_iload_n hx hb dJ7_copyOf_c38d5_14 rfl (lv_at hl 1 rfl) ?_
    refine va_newa (D := D) (atype := .long) (ty := .long) (N' := n1) (a0 := (n1, .inr (.inl (fun _ => 0)))) hx hb (hts _ ac_long) rfl hK hP hD hS hA (fun _ => rfl) (nI_pos (by omega)) (nI_clamp (by omega)) (by simp only [componentBytes]; omega) (by show 0 + 1 ≤ 1; omega) (by show 0 + n1 ≤ n1; omega) dJ7_copyOf_c38d5_15 (fun q cA H hK2 hP hD hS => ?_)
    obtain rfl := same_arr (k := 1) rfl (fun _ => rfl) hK2
    refine lv_astore_n (lv' := [(2, .ref q), (0, .ref a1), (1, .int (nI n1))]) hx hb dJ7_copyOf_c38d5_17 rfl hl (by decide) rfl (fun ls hl => ?_)
    refine lv_aload_n hx hb dJ7_copyOf_c38d5_18 rfl (lv_at hl 1 rfl) ?_
    refine lv_iconst (v := 0) hx hb dJ7_copyOf_c38d5_19 (by decide) ?_
    refine lv_aload_n hx hb dJ7_copyOf_c38d5_20 rfl (lv_at hl 0 rfl) ?_
    refine lv_iconst (v := 0) hx hb dJ7_copyOf_c38d5_21 (by decide) ?_
    refine lv_aload_n hx hb dJ7_copyOf_c38d5_22 rfl (lv_at hl 1 rfl) ?_
    refine va_alen (D := D) (v := nI len) hx hb hK hP q1 1 (app_lt h1) rfl rfl dJ7_copyOf_c38d5_23 ?_
    refine lv_iload_n hx hb dJ7_copyOf_c38d5_24 rfl (lv_at hl 2 rfl) ?_
    refine va_mmin hx hb (by rw [hml]; exact hl.1.symm) hown (hts _ ml_J7_304) (hts _ sc_J9_min_7cf53) (hts _ ini_J9) (hts _ cd_J9_min_7cf53) (Nat.le_of_ble_eq_true rfl) (Nat.le_of_ble_eq_true rfl) (by show 0 + 1 ≤ 1; omega) (by show 0 + n1 ≤ n1; omega) dJ7_copyOf_c38d5_25 ?_
    rw [if_neg (show ¬ nI n1 < nI len by rw [nI_ltI (by omega) (by omega)]; omega)]
    refine va_copyl (D := D) hx hb (by rw [hml]; exact hl.1.symm) hown (hts _ ml_J7_150) (hts _ nt_J10_arraycopy) (hts _ sc_J10_arraycopy) (hts _ ini_J10) hK hP hD hS q1 ws.length 1 1 (app_lt h1) app_at rfl rfl rfl (by decide) (by decide) (nI_pos (by omega)) (by rw [nI_clamp (by omega)]; simp) (by rw [nI_clamp (by omega)]; simp; omega) (fun _ _ => rfl) (Nat.le_of_ble_eq_true rfl) (Nat.le_of_ble_eq_true rfl) dJ7_copyOf_c38d5_28 (fun H locs hP hD hS => ?_)
    rw [app_set, nI_clamp (n := len) (by omega)] at hP hD
    refine lv_aload_n hx hb dJ7_copyOf_c38d5_31 rfl (lv_at hl 0 rfl) ?_
    refine W.widen (k := 1) (n := n1) (by omega) (by omega) ?_
    exact W.aret (v := .ref q) hx hb hr (Or.inr ⟨_, rfl⟩) (Or.inr ⟨_, rfl⟩) (fun t ht hW => ⟨⟨(), q, rfl, trivial, by rw [ht]; exact hP, hD⟩, hS.F ht⟩) hS.2.2 dJ7_copyOf_c38d5_32
  · exact absurd ((nI_eq (by omega) (by omega)).mp c3) (by omega)
set_option maxHeartbeats 4000000 in
set_option maxRecDepth 100000 in
theorem c_fill46 (l : Launch) (D : va_G) (y : Nat → ClassId) (ad : Nat → Nat) (cap : Nat → Nat) (I : Nat → Nat → Int32) (J : Nat → Nat → Int64) (sz : Nat) (v0 : Int32) : Met l yJ7_fill_53178 [.code yJ7_fill_53178 cJ7_fill_53178 4 none] ({ frames := 0, cells := 0, slots := 0, locals := 0 }) (va_Pc [.ref (ad 46), .int v0] (PW D y (Wd y ad cap I J) sz)) (va_Qv (fun u : St4 => ∃ I', u = (ad, cap, I', J) ∧ EqX [46] I I' ∧ ∀ t, t < 40 → I' 46 t = v0) (Aft D (Wt y) (Wd y ad cap I J) sz) (va_A (Wd y ad cap I J) sz)) 0 0 (va_A (Wd y ad cap I J) sz) := by
  refine Met.ofW (cc := cJ7_fill_53178) (maxL := 4) (ret := none) (by decide) rfl ?_
  intro p e s m args below meth c s₁ B hml hv
  obtain ⟨rfl, rfl, hP, hD0, hO⟩ := hv
  have hx := B.exec
  have hb := B.bytes
  have hr := B.returns
  have hown : s.vm.findClass RJ7 = some m.cls := findClass_of_methodNamed B.named
  have hlocks := B.notSynchronized
  have hK := hO.1
  have hts : ∀ w ∈ lw_E, w.before ([.ref (ad 46), .int v0] : List Value).toArray s = true := fun w h => hO.2 w h _
  clear B
  have hD := hD0.self (sz := s.heap.size)
  generalize hAe : va_A (Wd y ad cap I J) s.heap.size = A at hD ⊢
  have hA : ∀ q : Nat, s.heap.size ≤ q → A q := fun q h => by rw [← hAe]; exact Or.inr h
  have hS : va_S A s.heap s.heap [] := va_S.rf
  have hl := lv_entry ([.ref (ad 46), .int v0]) (n := 4) (Nat.le_of_ble_eq_true rfl)
  rw [lg_entry_eq]
  generalize (lg_sl ([.ref (ad 46), .int v0]) ++ List.replicate (4 - (lg_sl ([.ref (ad 46), .int v0])).length) Slot.unset).toArray = ls at hl ⊢
  have hl : lv_has ls 4 [(0, .ref (ad 46)), (1, .int v0)] := hl
  refine lv_iconst (v := 0) hx hb dJ7_fill_53178_0 (by decide) ?_
  rw [show (0 : Int32) = (nI 0) from rfl]
  refine lv_istore_n (lv' := [(2, .int (nI 0)), (0, .ref (ad 46)), (1, .int v0)]) hx hb dJ7_fill_53178_1 rfl hl (by decide) rfl (fun ls hl => ?_)
  refine lv_aload_n hx hb dJ7_fill_53178_2 rfl (lv_at hl 1 rfl) ?_
  refine va_alen (D := D) (v := nI 40) hx hb hK hP 46 0 (wd_46 y ad cap I J) rfl rfl dJ7_fill_53178_3 ?_
  refine lv_istore_n (lv' := [(3, .int (nI 40)), (2, .int (nI 0)), (0, .ref (ad 46)), (1, .int v0)]) hx hb dJ7_fill_53178_4 rfl hl (by decide) rfl (fun ls hl => ?_)
  have loop5 : ∀ (n5 : Nat) (k : Nat) (I9 : Nat → Nat → Int32) , (k ≤ 40) → (∀ t, t < k → I9 46 t = v0) → (EqX [46] I I9) → 40 + 1 ≤ k + n5 → ∀ (H : Heap) (locs : List Loc), va_P D vwCl (Wd y ad cap I9 J) H → va_D A (Wd y ad cap I9 J) → va_S A s.heap H locs → ∀ ls : Array Slot, lv_has ls 4 [(0, .ref (ad 46)), (1, .int v0), (2, .int (nI k)), (3, .int (nI 40))] → W p l e (headSpec [.code yJ7_fill_53178 cJ7_fill_53178 4 none] ({ frames := 0, cells := 0, slots := 0, locals := 0 })).room s m ([.ref (ad 46), .int v0] : List Value).toArray below meth c H locs 0 0 (MQ below (va_Qv (fun u : St4 => ∃ I', u = (ad, cap, I', J) ∧ EqX [46] I I' ∧ ∀ t, t < 40 → I' 46 t = v0) (Aft D (Wt y) (Wd y ad cap I J) s.heap.size) A) ([.ref (ad 46), .int v0] : List Value).toArray s 0 0 A) (F0 m 5 ls []) := by
    intro n5
    induction n5 with
    | zero =>
      intro k I9 hk h9 hEq hmeas
      exact absurd hmeas (by omega)
    | succ n5 ih5 =>
      intro k I9 hk h9 hEq hmeas H locs hP hD hS ls hl
      refine lv_iload_n hx hb dJ7_fill_53178_5 rfl (lv_at hl 2 rfl) ?_
      refine lv_iload_n hx hb dJ7_fill_53178_6 rfl (lv_at hl 3 rfl) ?_
      refine lv_icmp_ge (tgt := 20) hx hb dJ7_fill_53178_7 (by decide) (fun c7 => ?_) (fun c7 => ?_)
      · skip
        have c7 := (nI_leI (a := 40) (b := k) (by omega) (by omega)).mp c7
        refine W.vret hx hb hr (fun t ht hW => ⟨⟨(ad, cap, I9, J), rfl, ?_, by rw [ht]; exact hP, by show va_D (va_A (Wd y ad cap I J) s.heap.size) _; rw [hAe]; exact hD⟩, hS.F ht⟩) hS.2.2 dJ7_fill_53178_20
        exact ⟨I9, rfl, hEq, fun t ht => h9 t (by omega)⟩
      · skip
        have c7 := mt (nI_leI (a := 40) (b := k) (by omega) (by omega)).mpr c7
        refine lv_aload_n hx hb dJ7_fill_53178_10 rfl (lv_at hl 0 rfl) ?_
        refine lv_iload_n hx hb dJ7_fill_53178_11 rfl (lv_at hl 2 rfl) ?_
        refine lv_iload_n hx hb dJ7_fill_53178_12 rfl (lv_at hl 1 rfl) ?_
        refine va_iast (D := D) hx hb hK hP hD hS 46 0 (wd_46 y ad cap I9 J) rfl (vp_in_nI (by omega) (by omega)) dJ7_fill_53178_13 (fun H locs hP hD hS => ?_)
        rw [nI_clamp (n := k) (by omega)] at hP hD
        rw [ws_46] at hP hD
        generalize eI13 : va_up I9 46 (upd (I9 46) k v0) = I13 at hP hD
        refine lv_iinc (v := (nI (k + 1))) (lv' := [(2, .int (nI (k + 1))), (0, .ref (ad 46)), (1, .int v0), (3, .int (nI 40))]) hx hb dJ7_fill_53178_14 hl (k := 2) rfl (nI_1 _) (by decide) rfl (fun ls hl => ?_)
        refine lv_goto (tgt := 5) hx hb dJ7_fill_53178_17 (by decide) ?_
        exact ih5 (k + 1) I13 (by omega) (fun t ht => by subst eI13; rcases lt_s2 ht with h8 | h8; (simp [va_up, upd, h8]); (have hne : t ≠ k := by omega); simpa [va_up, upd, hne] using h9 t h8) (by subst eI13; exact EqX.up hEq (by decide)) (by omega) _ _ hP hD hS ls (by exact lv_sub hl [1, 2, 0, 3] rfl)
  exact loop5 (40 + 1) 0 I (by omega) (fun t ht => absurd ht (by omega)) EqX.rf (by omega) _ _ hP hD hS ls (by exact lv_sub hl [2, 3, 1, 0] rfl)
set_option maxHeartbeats 4000000 in
set_option maxRecDepth 100000 in
theorem c_fill47 (l : Launch) (D : va_G) (y : Nat → ClassId) (ad : Nat → Nat) (cap : Nat → Nat) (I : Nat → Nat → Int32) (J : Nat → Nat → Int64) (sz : Nat) (v0 : Int32) : Met l yJ7_fill_53178 [.code yJ7_fill_53178 cJ7_fill_53178 4 none] ({ frames := 0, cells := 0, slots := 0, locals := 0 }) (va_Pc [.ref (ad 47), .int v0] (PW D y (Wd y ad cap I J) sz)) (va_Qv (fun u : St4 => ∃ I', u = (ad, cap, I', J) ∧ EqX [47] I I' ∧ ∀ t, t < 2400 → I' 47 t = v0) (Aft D (Wt y) (Wd y ad cap I J) sz) (va_A (Wd y ad cap I J) sz)) 0 0 (va_A (Wd y ad cap I J) sz) := by
  refine Met.ofW (cc := cJ7_fill_53178) (maxL := 4) (ret := none) (by decide) rfl ?_
  intro p e s m args below meth c s₁ B hml hv
  obtain ⟨rfl, rfl, hP, hD0, hO⟩ := hv
  have hx := B.exec
  have hb := B.bytes
  have hr := B.returns
  have hown : s.vm.findClass RJ7 = some m.cls := findClass_of_methodNamed B.named
  have hlocks := B.notSynchronized
  have hK := hO.1
  have hts : ∀ w ∈ lw_E, w.before ([.ref (ad 47), .int v0] : List Value).toArray s = true := fun w h => hO.2 w h _
  clear B
  have hD := hD0.self (sz := s.heap.size)
  generalize hAe : va_A (Wd y ad cap I J) s.heap.size = A at hD ⊢
  have hA : ∀ q : Nat, s.heap.size ≤ q → A q := fun q h => by rw [← hAe]; exact Or.inr h
  have hS : va_S A s.heap s.heap [] := va_S.rf
  have hl := lv_entry ([.ref (ad 47), .int v0]) (n := 4) (Nat.le_of_ble_eq_true rfl)
  rw [lg_entry_eq]
  generalize (lg_sl ([.ref (ad 47), .int v0]) ++ List.replicate (4 - (lg_sl ([.ref (ad 47), .int v0])).length) Slot.unset).toArray = ls at hl ⊢
  have hl : lv_has ls 4 [(0, .ref (ad 47)), (1, .int v0)] := hl
  refine lv_iconst (v := 0) hx hb dJ7_fill_53178_0 (by decide) ?_
  rw [show (0 : Int32) = (nI 0) from rfl]
  refine lv_istore_n (lv' := [(2, .int (nI 0)), (0, .ref (ad 47)), (1, .int v0)]) hx hb dJ7_fill_53178_1 rfl hl (by decide) rfl (fun ls hl => ?_)
  refine lv_aload_n hx hb dJ7_fill_53178_2 rfl (lv_at hl 1 rfl) ?_
  refine va_alen (D := D) (v := nI 2400) hx hb hK hP 47 0 (wd_47 y ad cap I J) rfl rfl dJ7_fill_53178_3 ?_
  refine lv_istore_n (lv' := [(3, .int (nI 2400)), (2, .int (nI 0)), (0, .ref (ad 47)), (1, .int v0)]) hx hb dJ7_fill_53178_4 rfl hl (by decide) rfl (fun ls hl => ?_)
  have loop5 : ∀ (n5 : Nat) (k : Nat) (I9 : Nat → Nat → Int32) , (k ≤ 2400) → (∀ t, t < k → I9 47 t = v0) → (EqX [47] I I9) → 2400 + 1 ≤ k + n5 → ∀ (H : Heap) (locs : List Loc), va_P D vwCl (Wd y ad cap I9 J) H → va_D A (Wd y ad cap I9 J) → va_S A s.heap H locs → ∀ ls : Array Slot, lv_has ls 4 [(0, .ref (ad 47)), (1, .int v0), (2, .int (nI k)), (3, .int (nI 2400))] → W p l e (headSpec [.code yJ7_fill_53178 cJ7_fill_53178 4 none] ({ frames := 0, cells := 0, slots := 0, locals := 0 })).room s m ([.ref (ad 47), .int v0] : List Value).toArray below meth c H locs 0 0 (MQ below (va_Qv (fun u : St4 => ∃ I', u = (ad, cap, I', J) ∧ EqX [47] I I' ∧ ∀ t, t < 2400 → I' 47 t = v0) (Aft D (Wt y) (Wd y ad cap I J) s.heap.size) A) ([.ref (ad 47), .int v0] : List Value).toArray s 0 0 A) (F0 m 5 ls []) := by
    intro n5
    induction n5 with
    | zero =>
      intro k I9 hk h9 hEq hmeas
      exact absurd hmeas (by omega)
    | succ n5 ih5 =>
      intro k I9 hk h9 hEq hmeas H locs hP hD hS ls hl
      refine lv_iload_n hx hb dJ7_fill_53178_5 rfl (lv_at hl 2 rfl) ?_
      refine lv_iload_n hx hb dJ7_fill_53178_6 rfl (lv_at hl 3 rfl) ?_
      refine lv_icmp_ge (tgt := 20) hx hb dJ7_fill_53178_7 (by decide) (fun c7 => ?_) (fun c7 => ?_)
      · skip
        have c7 := (nI_leI (a := 2400) (b := k) (by omega) (by omega)).mp c7
        refine W.vret hx hb hr (fun t ht hW => ⟨⟨(ad, cap, I9, J), rfl, ?_, by rw [ht]; exact hP, by show va_D (va_A (Wd y ad cap I J) s.heap.size) _; rw [hAe]; exact hD⟩, hS.F ht⟩) hS.2.2 dJ7_fill_53178_20
        exact ⟨I9, rfl, hEq, fun t ht => h9 t (by omega)⟩
      · skip
        have c7 := mt (nI_leI (a := 2400) (b := k) (by omega) (by omega)).mpr c7
        refine lv_aload_n hx hb dJ7_fill_53178_10 rfl (lv_at hl 0 rfl) ?_
        refine lv_iload_n hx hb dJ7_fill_53178_11 rfl (lv_at hl 2 rfl) ?_
        refine lv_iload_n hx hb dJ7_fill_53178_12 rfl (lv_at hl 1 rfl) ?_
        refine va_iast (D := D) hx hb hK hP hD hS 47 0 (wd_47 y ad cap I9 J) rfl (vp_in_nI (by omega) (by omega)) dJ7_fill_53178_13 (fun H locs hP hD hS => ?_)
        rw [nI_clamp (n := k) (by omega)] at hP hD
        rw [ws_47] at hP hD
        generalize eI13 : va_up I9 47 (upd (I9 47) k v0) = I13 at hP hD
        refine lv_iinc (v := (nI (k + 1))) (lv' := [(2, .int (nI (k + 1))), (0, .ref (ad 47)), (1, .int v0), (3, .int (nI 2400))]) hx hb dJ7_fill_53178_14 hl (k := 2) rfl (nI_1 _) (by decide) rfl (fun ls hl => ?_)
        refine lv_goto (tgt := 5) hx hb dJ7_fill_53178_17 (by decide) ?_
        exact ih5 (k + 1) I13 (by omega) (fun t ht => by subst eI13; rcases lt_s2 ht with h8 | h8; (simp [va_up, upd, h8]); (have hne : t ≠ k := by omega); simpa [va_up, upd, hne] using h9 t h8) (by subst eI13; exact EqX.up hEq (by decide)) (by omega) _ _ hP hD hS ls (by exact lv_sub hl [1, 2, 0, 3] rfl)
  exact loop5 (2400 + 1) 0 I (by omega) (fun t ht => absurd ht (by omega)) EqX.rf (by omega) _ _ hP hD hS ls (by exact lv_sub hl [2, 3, 1, 0] rfl)
set_option maxHeartbeats 4000000 in
set_option maxRecDepth 100000 in
theorem c_X6_clear (l : Launch) (D : va_G) (y : Nat → ClassId) (ad : Nat → Nat) (cap : Nat → Nat) (I : Nat → Nat → Int32) (J : Nat → Nat → Int64) (sz : Nat) : Met l yX6_clear [.code yX6_clear cX6_clear 1 none] ({ frames := 1, cells := 0, slots := 0, locals := 23 }) (va_Pc [.ref (ad 38)] (PW D y (Wd y ad cap I J) sz)) (va_Qv (fun u : St4 => ∃ I', u = (ad, cap, I', J) ∧ EqX [38, 46, 47] I I' ∧ I' 38 0 = 0 ∧ I' 38 1 = 0 ∧ (∀ t, t < 40 → I' 46 t = 0) ∧ (∀ t, t < 2400 → I' 47 t = -1)) (Aft D (Wt y) (Wd y ad cap I J) sz) (va_A (Wd y ad cap I J) sz)) 0 0 (va_A (Wd y ad cap I J) sz) := by
  refine Met.ofW (cc := cX6_clear) (maxL := 1) (ret := none) (by decide) rfl ?_
  intro p e s m args below meth c s₁ B hml hv
  obtain ⟨rfl, rfl, hP, hD0, hO⟩ := hv
  have hx := B.exec
  have hb := B.bytes
  have hr := B.returns
  have hown : s.vm.findClass RX6 = some m.cls := findClass_of_methodNamed B.named
  have hlocks := B.notSynchronized
  have hK := hO.1
  have hts : ∀ w ∈ lw_E, w.before ([.ref (ad 38)] : List Value).toArray s = true := fun w h => hO.2 w h _
  clear B
  have hD := hD0.self (sz := s.heap.size)
  generalize hAe : va_A (Wd y ad cap I J) s.heap.size = A at hD ⊢
  have hA : ∀ q : Nat, s.heap.size ≤ q → A q := fun q h => by rw [← hAe]; exact Or.inr h
  have hS : va_S A s.heap s.heap [] := va_S.rf
  have hl := lv_entry ([.ref (ad 38)]) (n := 1) (Nat.le_of_ble_eq_true rfl)
  rw [lg_entry_eq]
  generalize (lg_sl ([.ref (ad 38)]) ++ List.replicate (1 - (lg_sl ([.ref (ad 38)])).length) Slot.unset).toArray = ls at hl ⊢
  have hl : lv_has ls 1 [(0, .ref (ad 38))] := hl
  refine lv_aload_n hx hb dX6_clear_0 rfl (lv_at hl 0 rfl) ?_
  refine lv_iconst (v := 0) hx hb dX6_clear_1 (by decide) ?_
  refine va_put (D := D) (T := TX6) (N := 11) (v := .int 0) (ty := .int) hx hb hts jnX6 tyX6 tyX6_ok nmX6 hown hK hP hD hS 38 (wd_38 y ad cap I J) rfl 0 (by decide) (hts _ fl_X6_9) (fun _ h9 => h9) rfl (by decide +kernel) rfl rfl (Nat.le_of_ble_eq_true rfl) dX6_clear_2 (fun H locs hP hD hS => ?_)
  rw [wp_38_0] at hP hD
  generalize eI2 : va_up I 38 (upd (I 38) 0 0) = I2 at hP hD
  refine lv_aload_n hx hb dX6_clear_5 rfl (lv_at hl 0 rfl) ?_
  refine lv_iconst (v := 0) hx hb dX6_clear_6 (by decide) ?_
  refine va_put (D := D) (T := TX6) (N := 11) (v := .int 0) (ty := .int) hx hb hts jnX6 tyX6 tyX6_ok nmX6 hown hK hP hD hS 38 (wd_38 y ad cap I2 J) rfl 1 (by decide) (hts _ fl_X6_15) (fun _ h9 => h9) rfl (by decide +kernel) rfl rfl (Nat.le_of_ble_eq_true rfl) dX6_clear_7 (fun H locs hP hD hS => ?_)
  rw [wp_38_1] at hP hD
  generalize eI7 : va_up I2 38 (upd (I2 38) 1 0) = I7 at hP hD
  refine lv_aload_n hx hb dX6_clear_10 rfl (lv_at hl 0 rfl) ?_
  refine va_get (D := D) (T := TX6) (N := 11) hx hb hts jnX6 hown hK hP 38 (wd_38 y ad cap I7 J) rfl 9 (by decide) (hts _ fl_X6_41) (fun _ h9 => h9) rfl dX6_clear_11 ?_
  refine lv_iconst (v := 0) hx hb dX6_clear_14 (by decide) ?_
  refine wk_v (Wf := Wt y) (run_s (As := [.ref (ad 46), .int 0]) (rest := []) hx hb hml hown hO.2 (c_fill46 l D y ad cap I7 J H.size 0) k_J7_fill_53178 ml_X6_47 ⟨rfl, rfl⟩ ⟨Nat.le_of_ble_eq_true rfl, Nat.le_of_ble_eq_true rfl⟩ (pre_SW hO hP hD) rfl hl.1 rfl (Nat.le_of_ble_eq_true rfl) dX6_clear_15 ⟨(Nat.zero_le _), (Nat.zero_le _)⟩) hD hS hA (fun u15 H locs hp15 hP hD hS => ?_)
  try dsimp only at hp15
  obtain ⟨I15, rfl, hE15, hV15⟩ := hp15
  have hP : va_P D vwCl (Wd y ad cap I15 J) H := hP
  have hD : va_D A (Wd y ad cap I15 J) := hD
  refine lv_aload_n hx hb dX6_clear_18 rfl (lv_at hl 0 rfl) ?_
  refine va_get (D := D) (T := TX6) (N := 11) hx hb hts jnX6 hown hK hP 38 (wd_38 y ad cap I15 J) rfl 10 (by decide) (hts _ fl_X6_44) (fun _ h9 => h9) rfl dX6_clear_19 ?_
  refine lv_iconst (v := (-1)) hx hb dX6_clear_22 (by decide) ?_
  refine wk_v (Wf := Wt y) (run_s (As := [.ref (ad 47), .int (-1)]) (rest := []) hx hb hml hown hO.2 (c_fill47 l D y ad cap I15 J H.size (-1)) k_J7_fill_53178 ml_X6_47 ⟨rfl, rfl⟩ ⟨Nat.le_of_ble_eq_true rfl, Nat.le_of_ble_eq_true rfl⟩ (pre_SW hO hP hD) rfl hl.1 rfl (Nat.le_of_ble_eq_true rfl) dX6_clear_23 ⟨(Nat.zero_le _), (Nat.zero_le _)⟩) hD hS hA (fun u23 H locs hp23 hP hD hS => ?_)
  try dsimp only at hp23
  obtain ⟨I23, rfl, hE23, hV23⟩ := hp23
  have hP : va_P D vwCl (Wd y ad cap I23 J) H := hP
  have hD : va_D A (Wd y ad cap I23 J) := hD
  refine W.vret hx hb hr (fun t ht hW => ⟨⟨(ad, cap, I23, J), rfl, ?_, by rw [ht]; exact hP, by show va_D (va_A (Wd y ad cap I J) s.heap.size) _; rw [hAe]; exact hD⟩, hS.F ht⟩) hS.2.2 dX6_clear_26
  have e38 : I23 38 = I7 38 := by rw [hE23 38 (by decide), hE15 38 (by decide)]
  refine ⟨I23, rfl, ?_, ?_, ?_, ?_, hV23⟩
  · intro j hj
    simp at hj
    rw [hE23 j (by simp; omega), hE15 j (by simp; omega), ← eI7, ← eI2]
    simp [va_up, hj]
  · rw [e38, ← eI7, ← eI2]
    simp [va_up, upd]
  · rw [e38, ← eI7]
    simp [va_up, upd]
  · intro t ht
    rw [hE23 46 (by decide)]
    exact hV15 t ht
