def hiI (f g : Nat → Int32) (p : Int32) : Nat → Int32
  | 0 => -1
  | k + 1 => if f k = p then (if hiI f g p k < g k then g k else hiI f g p k) else hiI f g p k
theorem hi_gt {f g : Nat → Int32} {p q : Int32} (h0 : ¬ q < 0) : ∀ n, q < hiI f g p n ↔ ∃ l, l < n ∧ f l = p ∧ q < g l := by
  intro n
  induction n with
  | zero =>
    constructor
    · intro h
      refine absurd h (fun h9 => h0 ?_)
      simp only [hiI] at h9
      rw [Int32.lt_iff_toInt_lt] at *
      have h7 : (0 : Int32).toInt = 0 := rfl
      have h8 : (-1 : Int32).toInt = -1 := rfl
      omega
    · rintro ⟨l, hl, _⟩
      omega
  | succ n ih =>
    simp only [hiI]
    by_cases hf : f n = p
    · rw [if_pos hf]
      by_cases hg : hiI f g p n < g n
      · rw [if_pos hg]
        constructor
        · intro h
          exact ⟨n, by omega, hf, h⟩
        · rintro ⟨l, hl, h1, h2⟩
          rcases lt_s2 hl with rfl | hl3
          · exact h2
          · have := ih.mpr ⟨l, hl3, h1, h2⟩
            exact Int32.lt_trans this hg
      · rw [if_neg hg, ih]
        constructor
        · rintro ⟨l, hl, h1, h2⟩
          exact ⟨l, by omega, h1, h2⟩
        · rintro ⟨l, hl, h1, h2⟩
          rcases lt_s2 hl with rfl | hl3
          · exact ih.mp (Int32.lt_of_lt_of_le h2 (Int32.not_lt.mp hg))
          · exact ⟨l, hl3, h1, h2⟩
    · rw [if_neg hf, ih]
      constructor
      · rintro ⟨l, hl, h1, h2⟩
        exact ⟨l, by omega, h1, h2⟩
      · rintro ⟨l, hl, h1, h2⟩
        rcases lt_s2 hl with rfl | hl3
        · exact absurd h1 hf
        · exact ⟨l, hl3, h1, h2⟩
theorem hi_lt {f g : Nat → Int32} {p q : Int32} (h0 : ¬ q < 0) : ∀ n, hiI f g p n < q ↔ ∀ l, l < n → f l = p → g l < q := by
  intro n
  induction n with
  | zero =>
    constructor
    · intro _ l hl
      omega
    · intro _
      simp only [hiI]
      rw [Int32.lt_iff_toInt_lt] at *
      have h7 : (0 : Int32).toInt = 0 := rfl
      have h8 : (-1 : Int32).toInt = -1 := rfl
      omega
  | succ n ih =>
    simp only [hiI]
    by_cases hf : f n = p
    · rw [if_pos hf]
      by_cases hg : hiI f g p n < g n
      · rw [if_pos hg]
        constructor
        · intro h l hl h1
          rcases lt_s2 hl with rfl | hl3
          · exact h
          · exact ih.mp (Int32.lt_trans hg h) l hl3 h1
        · intro h
          exact h n (by omega) hf
      · rw [if_neg hg]
        constructor
        · intro h l hl h1
          rcases lt_s2 hl with rfl | hl3
          · exact Int32.lt_of_le_of_lt (Int32.not_lt.mp hg) h
          · exact ih.mp h l hl3 h1
        · intro h
          exact ih.mpr (fun l hl h1 => h l (by omega) h1)
    · rw [if_neg hf, ih]
      constructor
      · intro h l hl h1
        rcases lt_s2 hl with rfl | hl3
        · exact absurd h1 hf
        · exact h l hl3 h1
      · intro h l hl h1
        exact h l (by omega) h1
theorem RT1_eqx {I I' : Nat → Nat → Int32} {T : Nat → Nat → Nat} (h : RT1 I T) (he : ∀ j, 1 ≤ j → j ≤ 16 → I' j = I j) : RT1 I' T := by
  unfold RT1 at *
  simp only [he 1 (by decide) (by decide), he 2 (by decide) (by decide), he 3 (by decide) (by decide), he 4 (by decide) (by decide), he 5 (by decide) (by decide), he 6 (by decide) (by decide), he 7 (by decide) (by decide), he 8 (by decide) (by decide), he 10 (by decide) (by decide), he 11 (by decide) (by decide), he 12 (by decide) (by decide), he 13 (by decide) (by decide), he 14 (by decide) (by decide), he 15 (by decide) (by decide), he 16 (by decide) (by decide)]
  exact h
theorem RT1_0 {I I' : Nat → Nat → Int32} {T : Nat → Nat → Nat} (h : RT1 I T) (he : EqX [0] I I') : RT1 I' T := RT1_eqx h (fun j h1 _ => he j (by simp; omega))
set_option maxHeartbeats 4000000 in
set_option maxRecDepth 100000 in
theorem c_X3_highestIn (l : Launch) (D : va_G) (y : Nat → ClassId) {ws : va_W} {n1 : Nat} {f2 f3 : Nat → Int32} {q1 a1 : Nat} {q2 a2 : Nat} {q3 a3 : Nat} (h1 : ws[q1]? = some (a1, .inr (3, [.int (nI n1), .ref a2, .ref a3]))) (h2 : ws[q2]? = some (a2, .inl (y 0, 60, .inl f2))) (h3 : ws[q3]? = some (a3, .inl (y 0, 60, .inl f3))) (hn1 : n1 ≤ 60) (p0 : Int32) : Met l yX3_highestIn [.code yX3_highestIn cX3_highestIn 4 (some .int)] ({ frames := 1, cells := 0, slots := 0, locals := 13 }) (va_Pc [.ref a1, .int p0] (PR D y ws)) (vp_Si (fun r => r = hiI f2 f3 p0 n1)) 0 0 (fun _ => False) := by
  refine Met.ofW (cc := cX3_highestIn) (maxL := 4) (ret := (some .int)) (by decide) rfl ?_
  intro p e s m args below meth c s₁ B hml hv
  obtain ⟨rfl, hP, hO⟩ := hv
  have hx := B.exec
  have hb := B.bytes
  have hr := B.returns
  have hown : s.vm.findClass RX3 = some m.cls := findClass_of_methodNamed B.named
  have hlocks := B.notSynchronized
  have hK := hO.1
  have hts : ∀ w ∈ lw_E, w.before ([.ref a1, .int p0] : List Value).toArray s = true := fun w h => hO.2 w h _
  clear B
  have hl := lv_entry ([.ref a1, .int p0]) (n := 4) (Nat.le_of_ble_eq_true rfl)
  rw [lg_entry_eq]
  generalize (lg_sl ([.ref a1, .int p0]) ++ List.replicate (4 - (lg_sl ([.ref a1, .int p0])).length) Slot.unset).toArray = ls at hl ⊢
  have hl : lv_has ls 4 [(0, .ref a1), (1, .int p0)] := hl
  refine lv_iconst (v := (-1)) hx hb dX3_highestIn_0 (by decide) ?_
  rw [show ((-1) : Int32) = (hiI f2 f3 p0 0) from rfl]
  refine lv_istore_n (lv' := [(2, .int (hiI f2 f3 p0 0)), (0, .ref a1), (1, .int p0)]) hx hb dX3_highestIn_1 rfl hl (by decide) rfl (fun ls hl => ?_)
  refine lv_iconst (v := 0) hx hb dX3_highestIn_2 (by decide) ?_
  rw [show (0 : Int32) = (nI 0) from rfl]
  refine lv_istore_n (lv' := [(3, .int (nI 0)), (2, .int (hiI f2 f3 p0 0)), (0, .ref a1), (1, .int p0)]) hx hb dX3_highestIn_3 rfl hl (by decide) rfl (fun ls hl => ?_)
  have loop4 : ∀ (n4 : Nat) (k : Nat) , (k ≤ n1) → n1 + 1 ≤ k + n4 → ∀ ls : Array Slot, lv_has ls 4 [(0, .ref a1), (1, .int p0), (2, .int (hiI f2 f3 p0 k)), (3, .int (nI k))] → W p l e (headSpec [.code yX3_highestIn cX3_highestIn 4 (some .int)] ({ frames := 1, cells := 0, slots := 0, locals := 13 })).room s m ([.ref a1, .int p0] : List Value).toArray below meth c s.heap [] 0 0 (MQ below (vp_Si (fun r => r = hiI f2 f3 p0 n1)) ([.ref a1, .int p0] : List Value).toArray s 0 0 (fun _ => False)) (F0 m 4 ls []) := by
    intro n4
    induction n4 with
    | zero =>
      intro k hk hmeas
      exact absurd hmeas (by omega)
    | succ n4 ih4 =>
      intro k hk hmeas ls hl
      refine lv_iload_n hx hb dX3_highestIn_4 rfl (lv_at hl 3 rfl) ?_
      refine lv_aload_n hx hb dX3_highestIn_5 rfl (lv_at hl 0 rfl) ?_
      refine va_get (D := D) (T := TX3) (N := 3) hx hb hts jnX3 hown hK hP q1 h1 rfl 0 (by decide) (hts _ fl_X3_9) (fun _ h9 => h9) rfl dX3_highestIn_6 ?_
      refine lv_icmp_ge (tgt := 39) hx hb dX3_highestIn_9 (by decide) (fun c9 => ?_) (fun c9 => ?_)
      · skip
        have c9 := (nI_leI (a := n1) (b := k) (by omega) (by omega)).mp c9
        refine lv_iload_n hx hb dX3_highestIn_39 rfl (lv_at hl 2 rfl) ?_
        refine W.iret (v := (hiI f2 f3 p0 k)) hx hb hr (fun t ht hW => ⟨_, rfl, ?_, ht⟩) (fun _ h => nomatch h) dX3_highestIn_40
        have : k = n1 := by omega
        rw [this]
      · skip
        have c9 := mt (nI_leI (a := n1) (b := k) (by omega) (by omega)).mpr c9
        refine lv_aload_n hx hb dX3_highestIn_12 rfl (lv_at hl 0 rfl) ?_
        refine va_get (D := D) (T := TX3) (N := 3) hx hb hts jnX3 hown hK hP q1 h1 rfl 1 (by decide) (hts _ fl_X3_15) (fun _ h9 => h9) rfl dX3_highestIn_13 ?_
        refine lv_iload_n hx hb dX3_highestIn_16 rfl (lv_at hl 3 rfl) ?_
        refine va_iald (D := D) hx hb hK hP q2 0 h2 rfl (vp_in_nI (by omega) (by omega)) dX3_highestIn_17 ?_
        rw [nI_clamp (n := k) (by omega)]
        refine lv_topi (fun v17 ev17 => ?_)
        refine lv_iload_n hx hb dX3_highestIn_18 rfl (lv_at hl 1 rfl) ?_
        refine lv_icmp_ne (tgt := 33) hx hb dX3_highestIn_19 (by decide) (fun c19 => ?_) (fun c19 => ?_)
        · skip
          have eH : hiI f2 f3 p0 (k + 1) = hiI f2 f3 p0 k := by simp only [hiI]; rw [if_neg (fun h9 => c19 (by rw [ev17]; exact h9))]
          refine lv_iinc (v := (nI (k + 1))) (lv' := [(3, .int (nI (k + 1))), (0, .ref a1), (1, .int p0), (2, .int (hiI f2 f3 p0 k))]) hx hb dX3_highestIn_33 hl (k := 3) rfl (nI_1 _) (by decide) rfl (fun ls hl => ?_)
          refine lv_goto (tgt := 4) hx hb dX3_highestIn_36 (by decide) ?_
          exact ih4 (k + 1) (by omega) (by omega) ls (by rw [show hiI f2 f3 p0 (k + 1) = hiI f2 f3 p0 k from eH]; exact lv_sub hl [1, 2, 3, 0] rfl)
        · skip
          refine lv_iload_n hx hb dX3_highestIn_22 rfl (lv_at hl 2 rfl) ?_
          refine lv_aload_n hx hb dX3_highestIn_23 rfl (lv_at hl 0 rfl) ?_
          refine va_get (D := D) (T := TX3) (N := 3) hx hb hts jnX3 hown hK hP q1 h1 rfl 2 (by decide) (hts _ fl_X3_19) (fun _ h9 => h9) rfl dX3_highestIn_24 ?_
          refine lv_iload_n hx hb dX3_highestIn_27 rfl (lv_at hl 3 rfl) ?_
          refine va_iald (D := D) hx hb hK hP q3 0 h3 rfl (vp_in_nI (by omega) (by omega)) dX3_highestIn_28 ?_
          rw [nI_clamp (n := k) (by omega)]
          refine lv_topi (fun v28 ev28 => ?_)
          refine va_mmax hx hb (by rw [hml]; exact hl.1.symm) hown (hts _ ml_X3_22) (hts _ sc_J9_max_7cf53) (hts _ ini_J9) (hts _ cd_J9_max_7cf53) (Nat.le_of_ble_eq_true rfl) (Nat.le_of_ble_eq_true rfl) (Nat.zero_le _) (Nat.zero_le _) dX3_highestIn_29 ?_
          refine lv_topi (fun v29 ev29 => ?_)
          have eH : hiI f2 f3 p0 (k + 1) = v29 := by simp only [hiI]; rw [if_pos (by rw [← ev17]; exact c19), ev29, ev28]
          refine lv_istore_n (lv' := [(2, .int v29), (0, .ref a1), (1, .int p0), (3, .int (nI k))]) hx hb dX3_highestIn_32 rfl hl (by decide) rfl (fun ls hl => ?_)
          refine lv_iinc (v := (nI (k + 1))) (lv' := [(3, .int (nI (k + 1))), (2, .int v29), (0, .ref a1), (1, .int p0)]) hx hb dX3_highestIn_33 hl (k := 3) rfl (nI_1 _) (by decide) rfl (fun ls hl => ?_)
          refine lv_goto (tgt := 4) hx hb dX3_highestIn_36 (by decide) ?_
          exact ih4 (k + 1) (by omega) (by omega) ls (by rw [show hiI f2 f3 p0 (k + 1) = v29 from eH]; exact lv_sub hl [2, 3, 1, 0] rfl)
  exact loop4 (n1 + 1) 0 (by omega) (by omega) ls (by exact lv_sub hl [2, 3, 1, 0] rfl)
set_option maxHeartbeats 4000000 in
set_option maxRecDepth 100000 in
theorem c_X1_highestIn (l : Launch) (D : va_G) (y : Nat → ClassId) {ws : va_W} {n1 : Nat} {f2 f3 : Nat → Int32} {q1 a1 : Nat} {z1_3 z1_4 : Value} {q2 a2 : Nat} {q3 a3 : Nat} (h1 : ws[q1]? = some (a1, .inr (1, [.int (nI n1), .ref a2, .ref a3, z1_3, z1_4]))) (h2 : ws[q2]? = some (a2, .inl (y 0, 200, .inl f2))) (h3 : ws[q3]? = some (a3, .inl (y 0, 200, .inl f3))) (hn1 : n1 ≤ 200) (p0 : Int32) : Met l yX1_highestIn [.code yX1_highestIn cX1_highestIn 4 (some .int)] ({ frames := 1, cells := 0, slots := 0, locals := 13 }) (va_Pc [.ref a1, .int p0] (PR D y ws)) (vp_Si (fun r => r = hiI f2 f3 p0 n1)) 0 0 (fun _ => False) := by
  refine Met.ofW (cc := cX1_highestIn) (maxL := 4) (ret := (some .int)) (by decide) rfl ?_
  intro p e s m args below meth c s₁ B hml hv
  obtain ⟨rfl, hP, hO⟩ := hv
  have hx := B.exec
  have hb := B.bytes
  have hr := B.returns
  have hown : s.vm.findClass RX1 = some m.cls := findClass_of_methodNamed B.named
  have hlocks := B.notSynchronized
  have hK := hO.1
  have hts : ∀ w ∈ lw_E, w.before ([.ref a1, .int p0] : List Value).toArray s = true := fun w h => hO.2 w h _
  clear B
  have hl := lv_entry ([.ref a1, .int p0]) (n := 4) (Nat.le_of_ble_eq_true rfl)
  rw [lg_entry_eq]
  generalize (lg_sl ([.ref a1, .int p0]) ++ List.replicate (4 - (lg_sl ([.ref a1, .int p0])).length) Slot.unset).toArray = ls at hl ⊢
  have hl : lv_has ls 4 [(0, .ref a1), (1, .int p0)] := hl
  refine lv_iconst (v := (-1)) hx hb dX1_highestIn_0 (by decide) ?_
  rw [show ((-1) : Int32) = (hiI f2 f3 p0 0) from rfl]
  refine lv_istore_n (lv' := [(2, .int (hiI f2 f3 p0 0)), (0, .ref a1), (1, .int p0)]) hx hb dX1_highestIn_1 rfl hl (by decide) rfl (fun ls hl => ?_)
  refine lv_iconst (v := 0) hx hb dX1_highestIn_2 (by decide) ?_
  rw [show (0 : Int32) = (nI 0) from rfl]
  refine lv_istore_n (lv' := [(3, .int (nI 0)), (2, .int (hiI f2 f3 p0 0)), (0, .ref a1), (1, .int p0)]) hx hb dX1_highestIn_3 rfl hl (by decide) rfl (fun ls hl => ?_)
  have loop4 : ∀ (n4 : Nat) (k : Nat) , (k ≤ n1) → n1 + 1 ≤ k + n4 → ∀ ls : Array Slot, lv_has ls 4 [(0, .ref a1), (1, .int p0), (2, .int (hiI f2 f3 p0 k)), (3, .int (nI k))] → W p l e (headSpec [.code yX1_highestIn cX1_highestIn 4 (some .int)] ({ frames := 1, cells := 0, slots := 0, locals := 13 })).room s m ([.ref a1, .int p0] : List Value).toArray below meth c s.heap [] 0 0 (MQ below (vp_Si (fun r => r = hiI f2 f3 p0 n1)) ([.ref a1, .int p0] : List Value).toArray s 0 0 (fun _ => False)) (F0 m 4 ls []) := by
    intro n4
    induction n4 with
    | zero =>
      intro k hk hmeas
      exact absurd hmeas (by omega)
    | succ n4 ih4 =>
      intro k hk hmeas ls hl
      refine lv_iload_n hx hb dX1_highestIn_4 rfl (lv_at hl 3 rfl) ?_
      refine lv_aload_n hx hb dX1_highestIn_5 rfl (lv_at hl 0 rfl) ?_
      refine va_get (D := D) (T := TX1) (N := 5) hx hb hts jnX1 hown hK hP q1 h1 rfl 0 (by decide) (hts _ fl_X1_9) (fun _ h9 => h9) rfl dX1_highestIn_6 ?_
      refine lv_icmp_ge (tgt := 39) hx hb dX1_highestIn_9 (by decide) (fun c9 => ?_) (fun c9 => ?_)
      · skip
        have c9 := (nI_leI (a := n1) (b := k) (by omega) (by omega)).mp c9
        refine lv_iload_n hx hb dX1_highestIn_39 rfl (lv_at hl 2 rfl) ?_
        refine W.iret (v := (hiI f2 f3 p0 k)) hx hb hr (fun t ht hW => ⟨_, rfl, ?_, ht⟩) (fun _ h => nomatch h) dX1_highestIn_40
        have : k = n1 := by omega
        rw [this]
      · skip
        have c9 := mt (nI_leI (a := n1) (b := k) (by omega) (by omega)).mpr c9
        refine lv_aload_n hx hb dX1_highestIn_12 rfl (lv_at hl 0 rfl) ?_
        refine va_get (D := D) (T := TX1) (N := 5) hx hb hts jnX1 hown hK hP q1 h1 rfl 1 (by decide) (hts _ fl_X1_15) (fun _ h9 => h9) rfl dX1_highestIn_13 ?_
        refine lv_iload_n hx hb dX1_highestIn_16 rfl (lv_at hl 3 rfl) ?_
        refine va_iald (D := D) hx hb hK hP q2 0 h2 rfl (vp_in_nI (by omega) (by omega)) dX1_highestIn_17 ?_
        rw [nI_clamp (n := k) (by omega)]
        refine lv_topi (fun v17 ev17 => ?_)
        refine lv_iload_n hx hb dX1_highestIn_18 rfl (lv_at hl 1 rfl) ?_
        refine lv_icmp_ne (tgt := 33) hx hb dX1_highestIn_19 (by decide) (fun c19 => ?_) (fun c19 => ?_)
        · skip
          have eH : hiI f2 f3 p0 (k + 1) = hiI f2 f3 p0 k := by simp only [hiI]; rw [if_neg (fun h9 => c19 (by rw [ev17]; exact h9))]
          refine lv_iinc (v := (nI (k + 1))) (lv' := [(3, .int (nI (k + 1))), (0, .ref a1), (1, .int p0), (2, .int (hiI f2 f3 p0 k))]) hx hb dX1_highestIn_33 hl (k := 3) rfl (nI_1 _) (by decide) rfl (fun ls hl => ?_)
          refine lv_goto (tgt := 4) hx hb dX1_highestIn_36 (by decide) ?_
          exact ih4 (k + 1) (by omega) (by omega) ls (by rw [show hiI f2 f3 p0 (k + 1) = hiI f2 f3 p0 k from eH]; exact lv_sub hl [1, 2, 3, 0] rfl)
        · skip
          refine lv_iload_n hx hb dX1_highestIn_22 rfl (lv_at hl 2 rfl) ?_
          refine lv_aload_n hx hb dX1_highestIn_23 rfl (lv_at hl 0 rfl) ?_
          refine va_get (D := D) (T := TX1) (N := 5) hx hb hts jnX1 hown hK hP q1 h1 rfl 2 (by decide) (hts _ fl_X1_19) (fun _ h9 => h9) rfl dX1_highestIn_24 ?_
          refine lv_iload_n hx hb dX1_highestIn_27 rfl (lv_at hl 3 rfl) ?_
          refine va_iald (D := D) hx hb hK hP q3 0 h3 rfl (vp_in_nI (by omega) (by omega)) dX1_highestIn_28 ?_
          rw [nI_clamp (n := k) (by omega)]
          refine lv_topi (fun v28 ev28 => ?_)
          refine va_mmax hx hb (by rw [hml]; exact hl.1.symm) hown (hts _ ml_X1_28) (hts _ sc_J9_max_7cf53) (hts _ ini_J9) (hts _ cd_J9_max_7cf53) (Nat.le_of_ble_eq_true rfl) (Nat.le_of_ble_eq_true rfl) (Nat.zero_le _) (Nat.zero_le _) dX1_highestIn_29 ?_
          refine lv_topi (fun v29 ev29 => ?_)
          have eH : hiI f2 f3 p0 (k + 1) = v29 := by simp only [hiI]; rw [if_pos (by rw [← ev17]; exact c19), ev29, ev28]
          refine lv_istore_n (lv' := [(2, .int v29), (0, .ref a1), (1, .int p0), (3, .int (nI k))]) hx hb dX1_highestIn_32 rfl hl (by decide) rfl (fun ls hl => ?_)
          refine lv_iinc (v := (nI (k + 1))) (lv' := [(3, .int (nI (k + 1))), (2, .int v29), (0, .ref a1), (1, .int p0)]) hx hb dX1_highestIn_33 hl (k := 3) rfl (nI_1 _) (by decide) rfl (fun ls hl => ?_)
          refine lv_goto (tgt := 4) hx hb dX1_highestIn_36 (by decide) ?_
          exact ih4 (k + 1) (by omega) (by omega) ls (by rw [show hiI f2 f3 p0 (k + 1) = v29 from eH]; exact lv_sub hl [2, 3, 1, 0] rfl)
  exact loop4 (n1 + 1) 0 (by omega) (by omega) ls (by exact lv_sub hl [2, 3, 1, 0] rfl)
set_option maxHeartbeats 4000000 in
set_option maxRecDepth 100000 in
theorem c_X7_changeSize (l : Launch) (D : va_G) (y : Nat → ClassId) (ad : Nat → Nat) (cap : Nat → Nat) (I : Nat → Nat → Int32) (J : Nat → Nat → Int64) (sz : Nat) {T : Nat → Nat → Nat} (hT : RT1 I T) (hW : WF T) (p1 p2 : Int32) : Met l yX7_changeSize [.code yX7_changeSize cX7_changeSize 3 (some .boolean)] ({ frames := 2, cells := 0, slots := 0, locals := 36 }) (va_Pc [.ref (ad 1), .int p1, .int p2] (PW D y (Wd y ad cap I J) sz)) (va_Qi (fun (r : Int32) (u : St4) => ∃ I', u = (ad, cap, I', J) ∧ EqX [3] I I' ∧ (rszV T p1 p2 → r = 1 ∧ RT1 I' (setS T p1.toNatClampNeg p2.toNatClampNeg)) ∧ (¬ rszV T p1 p2 → r = 0 ∧ I' = I)) (Aft D (Wt y) (Wd y ad cap I J) sz) (va_A (Wd y ad cap I J) sz)) 0 0 (va_A (Wd y ad cap I J) sz) := by
  refine Met.ofW (cc := cX7_changeSize) (maxL := 3) (ret := (some .boolean)) (by decide) rfl ?_
  intro p e s m args below meth c s₁ B hml hv
  obtain ⟨rfl, rfl, hP, hD0, hO⟩ := hv
  have hx := B.exec
  have hb := B.bytes
  have hr := B.returns
  have hown : s.vm.findClass RX7 = some m.cls := findClass_of_methodNamed B.named
  have hlocks := B.notSynchronized
  have hK := hO.1
  have hts : ∀ w ∈ lw_E, w.before ([.ref (ad 1), .int p1, .int p2] : List Value).toArray s = true := fun w h => hO.2 w h _
  clear B
  have hD := hD0.self (sz := s.heap.size)
  generalize hAe : va_A (Wd y ad cap I J) s.heap.size = A at hD ⊢
  have hA : ∀ q : Nat, s.heap.size ≤ q → A q := fun q h => by rw [← hAe]; exact Or.inr h
  have hS : va_S A s.heap s.heap [] := va_S.rf
  have hl := lv_entry ([.ref (ad 1), .int p1, .int p2]) (n := 3) (Nat.le_of_ble_eq_true rfl)
  rw [lg_entry_eq]
  generalize (lg_sl ([.ref (ad 1), .int p1, .int p2]) ++ List.replicate (3 - (lg_sl ([.ref (ad 1), .int p1, .int p2])).length) Slot.unset).toArray = ls at hl ⊢
  have hl : lv_has ls 3 [(0, .ref (ad 1)), (1, .int p1), (2, .int p2)] := hl
  have hW0 := hW
  obtain ⟨⟨w1, w2, w3, w4, w5, w6, w7⟩, wS, wL, wB, wK, wTk, wT0⟩ := hW
  refine lv_aload_n hx hb dX7_changeSize_0 rfl (lv_at hl 0 rfl) ?_
  refine va_get (D := D) (T := TX7) (N := 8) hx hb hts jnX7 hown hK hP 1 (wd_1 y ad cap I J) rfl 0 (by decide) (hts _ fl_X7_12) (fun _ h9 => h9) rfl dX7_changeSize_1 ?_
  refine lv_iload_n hx hb dX7_changeSize_4 rfl (lv_at hl 1 rfl) ?_
  refine rk_i (run_vn (As := [.int p1]) (rest := []) (b := (ad 2)) hx hb hml hown hO.2 (c_X5_has l D y (wd_2 y ad cap I J) p1) k_X5_has mn_X7_56 ⟨rfl, rfl⟩ ⟨Nat.le_of_ble_eq_true rfl, Nat.le_of_ble_eq_true rfl⟩ (pre_VR hO hP (wd_2 y ad cap I J) rfl) rfl hl.1 rfl (Nat.le_of_ble_eq_true rfl) dX7_changeSize_5 ⟨(Nat.zero_le _), (Nat.zero_le _)⟩) (fun r5 er5 => ?_)
  try dsimp only at er5
  rw [hT.1.1] at er5
  refine lv_if_eq (tgt := 18) hx hb dX7_changeSize_8 (by decide) (fun c8 => ?_) (fun c8 => ?_)
  · skip
    have c8 := if01_z er5 c8
    refine lv_iconst (v := 0) hx hb dX7_changeSize_18 (by decide) ?_
    refine W.zret (v := 0) hx hb hr (by decide) (fun t ht hW => ⟨⟨_, (ad, cap, I, J), rfl, ?_, by rw [ht]; exact hP, by show va_D (va_A (Wd y ad cap I J) s.heap.size) _; rw [hAe]; exact hD⟩, hS.F ht⟩) hS.2.2 dX7_changeSize_19
    refine ⟨I, rfl, EqX.rf, fun h9 => absurd h9 (fun h8 => ?_), fun _ => ⟨rfl, rfl⟩⟩
    obtain ⟨g1, g2, g3, g4⟩ := h8
    first | exact c8 g1 | exact c15 g2
  · skip
    have c8 := if01_n er5 c8
    refine lv_iload_n hx hb dX7_changeSize_11 rfl (lv_at hl 2 rfl) ?_
    refine rk_i (run_sn (As := [.int p2]) (rest := []) hx hb hml hown hO.2 (c_X5_isSize l D y p2) k_X5_isSize mn_X7_57 ⟨rfl, rfl⟩ ⟨Nat.le_of_ble_eq_true rfl, Nat.le_of_ble_eq_true rfl⟩ (pre_SR hO hP) rfl hl.1 rfl (Nat.le_of_ble_eq_true rfl) dX7_changeSize_12 ⟨(Nat.zero_le _), (Nat.zero_le _)⟩) (fun r12 er12 => ?_)
    try dsimp only at er12
    refine lv_if_ne (tgt := 20) hx hb dX7_changeSize_15 (by decide) (fun c15 => ?_) (fun c15 => ?_)
    · skip
      have c15 := if01_n er12 c15
      have hl9 : ∀ l, l < T 0 1 → I 7 l = nI (T 4 l) ∧ I 8 l = nI (T 5 l) := hT.2.2.1
      have hb9 : ∀ b, b < T 0 2 → I 13 b = nI (T 6 b) ∧ I 14 b = nI (T 7 b) := fun b hb => ⟨(hT.2.2.2.1 b hb).1, (hT.2.2.2.1 b hb).2.1⟩
      have z1 : (∀ l, l < T 0 1 → nI (T 4 l) = p1 → ¬ p2 < nI (T 5 l)) ↔ ¬ p2 < hiI (I 7) (I 8) p1 (T 0 1) := by
        rw [hi_gt c15.1]
        constructor
        · rintro h ⟨l, h1, h2, h3⟩
          rw [(hl9 l h1).1] at h2
          rw [(hl9 l h1).2] at h3
          exact h l h1 h2 h3
        · intro h l h1 h2 h3
          exact h ⟨l, h1, by rw [(hl9 l h1).1]; exact h2, by rw [(hl9 l h1).2]; exact h3⟩
      have z2 : (∀ b, b < T 0 2 → nI (T 6 b) = p1 → nI (T 7 b) < p2) ↔ hiI (I 13) (I 14) p1 (T 0 2) < p2 := by
        rw [hi_lt c15.1]
        constructor
        · intro h l h1 h2
          rw [(hb9 l h1).1] at h2
          rw [(hb9 l h1).2]
          exact h l h1 h2
        · intro h l h1 h2
          rw [← (hb9 l h1).2]
          exact h l h1 (by rw [(hb9 l h1).1]; exact h2)
      refine lv_aload_n hx hb dX7_changeSize_20 rfl (lv_at hl 0 rfl) ?_
      refine va_get (D := D) (T := TX7) (N := 8) hx hb hts jnX7 hown hK hP 1 (wd_1 y ad cap I J) rfl 1 (by decide) (hts _ fl_X7_21) (fun _ h9 => h9) rfl dX7_changeSize_21 ?_
      refine lv_iload_n hx hb dX7_changeSize_24 rfl (lv_at hl 1 rfl) ?_
      refine rk_i (run_vn (As := [.int p1]) (rest := []) (b := (ad 6)) hx hb hml hown hO.2 (c_X3_highestIn l D y (n1 := T 0 1) (hT.1.2.1 ▸ (wd_6 y ad cap I J)) (wd_7 y ad cap I J) (wd_8 y ad cap I J) w2 p1) k_X3_highestIn mn_X7_60 ⟨rfl, rfl⟩ ⟨Nat.le_of_ble_eq_true rfl, Nat.le_of_ble_eq_true rfl⟩ (pre_VR hO hP (wd_6 y ad cap I J) rfl) rfl hl.1 rfl (Nat.le_of_ble_eq_true rfl) dX7_changeSize_25 ⟨(Nat.zero_le _), (Nat.zero_le _)⟩) (fun r25 er25 => ?_)
      try dsimp only at er25
      refine lv_iload_n hx hb dX7_changeSize_28 rfl (lv_at hl 2 rfl) ?_
      refine lv_icmp_gt (tgt := 44) hx hb dX7_changeSize_29 (by decide) (fun c29 => ?_) (fun c29 => ?_)
      · skip
        refine lv_iconst (v := 0) hx hb dX7_changeSize_44 (by decide) ?_
        refine W.zret (v := 0) hx hb hr (by decide) (fun t ht hW => ⟨⟨_, (ad, cap, I, J), rfl, ?_, by rw [ht]; exact hP, by show va_D (va_A (Wd y ad cap I J) s.heap.size) _; rw [hAe]; exact hD⟩, hS.F ht⟩) hS.2.2 dX7_changeSize_45
        refine ⟨I, rfl, EqX.rf, fun h9 => absurd h9 (fun h8 => ?_), fun _ => ⟨rfl, rfl⟩⟩
        obtain ⟨g1, g2, g3, g4⟩ := h8
        first | exact z1.mp g3 (by rw [← er25]; exact c29) | exact c41 (by rw [er37]; exact z2.mp g4)
      · skip
        refine lv_aload_n hx hb dX7_changeSize_32 rfl (lv_at hl 0 rfl) ?_
        refine va_get (D := D) (T := TX7) (N := 8) hx hb hts jnX7 hown hK hP 1 (wd_1 y ad cap I J) rfl 3 (by decide) (hts _ fl_X7_35) (fun _ h9 => h9) rfl dX7_changeSize_33 ?_
        refine lv_iload_n hx hb dX7_changeSize_36 rfl (lv_at hl 1 rfl) ?_
        refine rk_i (run_vn (As := [.int p1]) (rest := []) (b := (ad 12)) hx hb hml hown hO.2 (c_X1_highestIn l D y (n1 := T 0 2) (hT.1.2.2.1 ▸ (wd_12 y ad cap I J)) (wd_13 y ad cap I J) (wd_14 y ad cap I J) w3 p1) k_X1_highestIn mn_X7_64 ⟨rfl, rfl⟩ ⟨Nat.le_of_ble_eq_true rfl, Nat.le_of_ble_eq_true rfl⟩ (pre_VR hO hP (wd_12 y ad cap I J) rfl) rfl hl.1 rfl (Nat.le_of_ble_eq_true rfl) dX7_changeSize_37 ⟨(Nat.zero_le _), (Nat.zero_le _)⟩) (fun r37 er37 => ?_)
        try dsimp only at er37
        refine lv_iload_n hx hb dX7_changeSize_40 rfl (lv_at hl 2 rfl) ?_
        refine lv_icmp_lt (tgt := 46) hx hb dX7_changeSize_41 (by decide) (fun c41 => ?_) (fun c41 => ?_)
        · skip
          have hV : rszV T p1 p2 := ⟨c8, c15, z1.mpr (by rw [← er25]; exact c29), z2.mpr (by rw [← er37]; exact c41)⟩
          obtain ⟨n1, hn0⟩ := inR_nat (n := 1000000) rfl hV.2.1
          obtain ⟨s0, s1, hs0⟩ := ix_ok (n := T 0 0) (by omega) c8
          have s2 : p1.toNatClampNeg = s0 := by rw [s1]; exact nI_clamp (by omega)
          rw [s2]
          generalize p2.toNatClampNeg = n0 at n1 hn0 ⊢
          clear z1 z2 c8 c15 c29 c41 er25 er37 er5 er12
          subst n1
          subst s1
          refine lv_aload_n hx hb dX7_changeSize_46 rfl (lv_at hl 0 rfl) ?_
          refine va_get (D := D) (T := TX7) (N := 8) hx hb hts jnX7 hown hK hP 1 (wd_1 y ad cap I J) rfl 0 (by decide) (hts _ fl_X7_12) (fun _ h9 => h9) rfl dX7_changeSize_47 ?_
          refine va_getN (D := D) (T := TX5) (N := 5) hx hb hts jnX5 hown hK hP 2 (wd_2 y ad cap I J) rfl 2 (by decide) (hts _ fn_X7_65) (fun _ h9 => h9) rfl dX7_changeSize_50 ?_
          refine lv_iload_n hx hb dX7_changeSize_53 rfl (lv_at hl 1 rfl) ?_
          refine lv_iload_n hx hb dX7_changeSize_54 rfl (lv_at hl 2 rfl) ?_
          refine va_iast (D := D) hx hb hK hP hD hS 3 0 (wd_3 y ad cap I J) rfl (vp_in_nI (by omega) (by omega)) dX7_changeSize_55 (fun H locs hP hD hS => ?_)
          rw [nI_clamp (n := s0) (by omega)] at hP hD
          rw [ws_3] at hP hD
          generalize eI55 : va_up I 3 (upd (I 3) s0 (nI n0)) = I55 at hP hD
          refine lv_iconst (v := 1) hx hb dX7_changeSize_56 (by decide) ?_
          refine W.zret (v := 1) hx hb hr (by decide) (fun t ht hW => ⟨⟨_, (ad, cap, I55, J), rfl, ?_, by rw [ht]; exact hP, by show va_D (va_A (Wd y ad cap I J) s.heap.size) _; rw [hAe]; exact hD⟩, hS.F ht⟩) hS.2.2 dX7_changeSize_57
          refine ⟨_, rfl, ?_, fun _ => ⟨rfl, RT1_setS (s := s0) (n := n0) hT eI55.symm⟩, fun h9 => absurd hV h9⟩
          subst_vars
          refine EqX.up (EqX.rf) ?_ <;> decide
        · skip
          refine lv_iconst (v := 0) hx hb dX7_changeSize_44 (by decide) ?_
          refine W.zret (v := 0) hx hb hr (by decide) (fun t ht hW => ⟨⟨_, (ad, cap, I, J), rfl, ?_, by rw [ht]; exact hP, by show va_D (va_A (Wd y ad cap I J) s.heap.size) _; rw [hAe]; exact hD⟩, hS.F ht⟩) hS.2.2 dX7_changeSize_45
          refine ⟨I, rfl, EqX.rf, fun h9 => absurd h9 (fun h8 => ?_), fun _ => ⟨rfl, rfl⟩⟩
          obtain ⟨g1, g2, g3, g4⟩ := h8
          first | exact z1.mp g3 (by rw [← er25]; exact c29) | exact c41 (by rw [er37]; exact z2.mp g4)
    · skip
      have c15 := if01_z er12 c15
      refine lv_iconst (v := 0) hx hb dX7_changeSize_18 (by decide) ?_
      refine W.zret (v := 0) hx hb hr (by decide) (fun t ht hW => ⟨⟨_, (ad, cap, I, J), rfl, ?_, by rw [ht]; exact hP, by show va_D (va_A (Wd y ad cap I J) s.heap.size) _; rw [hAe]; exact hD⟩, hS.F ht⟩) hS.2.2 dX7_changeSize_19
      refine ⟨I, rfl, EqX.rf, fun h9 => absurd h9 (fun h8 => ?_), fun _ => ⟨rfl, rfl⟩⟩
      obtain ⟨g1, g2, g3, g4⟩ := h8
      first | exact c8 g1 | exact c15 g2
set_option maxHeartbeats 4000000 in
set_option maxRecDepth 100000 in
theorem c_X8_noted (l : Launch) (D : va_G) (y : Nat → ClassId) (ad : Nat → Nat) (cap : Nat → Nat) (I : Nat → Nat → Int32) (J : Nat → Nat → Int64) (sz : Nat) {q0 : Nat} (hq0 : q0 ≤ 1) : Met l yX8_noted [.code yX8_noted cX8_noted 2 (some .boolean)] ({ frames := 0, cells := 0, slots := 0, locals := 0 }) (va_Pc [.ref (ad 0), .int (nI q0)] (PW D y (Wd y ad cap I J) sz)) (va_Qi (fun (r : Int32) (u : St4) => r = nI q0 ∧ ∃ I', u = (ad, cap, I', J) ∧ EqX [0] I I' ∧ (q0 = 1 → I' 0 4 = 1) ∧ (q0 = 0 → I' = I)) (Aft D (Wt y) (Wd y ad cap I J) sz) (va_A (Wd y ad cap I J) sz)) 0 0 (va_A (Wd y ad cap I J) sz) := by
  refine Met.ofW (cc := cX8_noted) (maxL := 2) (ret := (some .boolean)) (by decide) rfl ?_
  intro p e s m args below meth c s₁ B hml hv
  obtain ⟨rfl, rfl, hP, hD0, hO⟩ := hv
  have hx := B.exec
  have hb := B.bytes
  have hr := B.returns
  have hown : s.vm.findClass RX8 = some m.cls := findClass_of_methodNamed B.named
  have hlocks := B.notSynchronized
  have hK := hO.1
  have hts : ∀ w ∈ lw_E, w.before ([.ref (ad 0), .int (nI q0)] : List Value).toArray s = true := fun w h => hO.2 w h _
  clear B
  have hD := hD0.self (sz := s.heap.size)
  generalize hAe : va_A (Wd y ad cap I J) s.heap.size = A at hD ⊢
  have hA : ∀ q : Nat, s.heap.size ≤ q → A q := fun q h => by rw [← hAe]; exact Or.inr h
  have hS : va_S A s.heap s.heap [] := va_S.rf
  have hl := lv_entry ([.ref (ad 0), .int (nI q0)]) (n := 2) (Nat.le_of_ble_eq_true rfl)
  rw [lg_entry_eq]
  generalize (lg_sl ([.ref (ad 0), .int (nI q0)]) ++ List.replicate (2 - (lg_sl ([.ref (ad 0), .int (nI q0)])).length) Slot.unset).toArray = ls at hl ⊢
  have hl : lv_has ls 2 [(0, .ref (ad 0)), (1, .int (nI q0))] := hl
  refine lv_iload_n hx hb dX8_noted_0 rfl (lv_at hl 1 rfl) ?_
  refine lv_if_eq (tgt := 9) hx hb dX8_noted_1 (by decide) (fun c1 => ?_) (fun c1 => ?_)
  · skip
    have h9 := (nI_z (by omega)).mp c1
    refine lv_iload_n hx hb dX8_noted_9 rfl (lv_at hl 1 rfl) ?_
    refine W.zret (v := (nI q0)) hx hb hr (fit01 hq0) (fun t ht hW => ⟨⟨_, (ad, cap, I, J), rfl, ?_, by rw [ht]; exact hP, by show va_D (va_A (Wd y ad cap I J) s.heap.size) _; rw [hAe]; exact hD⟩, hS.F ht⟩) hS.2.2 dX8_noted_10
    exact ⟨rfl, I, rfl, EqX.rf, fun h8 => absurd h8 (by omega), fun _ => rfl⟩
  · skip
    have h9 : q0 = 1 := by have := mt (nI_z (by omega)).mpr c1; omega
    refine lv_aload_n hx hb dX8_noted_4 rfl (lv_at hl 0 rfl) ?_
    refine lv_iconst (v := 1) hx hb dX8_noted_5 (by decide) ?_
    refine va_put (D := D) (T := TX8) (N := 5) (v := .int 1) (ty := .boolean) hx hb hts jnX8 tyX8 tyX8_ok nmX8 hown hK hP hD hS 0 (wd_0 y ad cap I J) rfl 4 (by decide) (hts _ fl_X8_34) (fun _ h9 => h9) rfl (by decide +kernel) rfl rfl (Nat.le_of_ble_eq_true rfl) dX8_noted_6 (fun H locs hP hD hS => ?_)
    rw [wp_0_4] at hP hD
    generalize eI6 : va_up I 0 (upd (I 0) 4 1) = I6 at hP hD
    refine lv_iload_n hx hb dX8_noted_9 rfl (lv_at hl 1 rfl) ?_
    refine W.zret (v := (nI q0)) hx hb hr (fit01 hq0) (fun t ht hW => ⟨⟨_, (ad, cap, I6, J), rfl, ?_, by rw [ht]; exact hP, by show va_D (va_A (Wd y ad cap I J) s.heap.size) _; rw [hAe]; exact hD⟩, hS.F ht⟩) hS.2.2 dX8_noted_10
    refine ⟨rfl, _, rfl, ?_, fun _ => ?_, fun h8 => absurd h8 (by omega)⟩
    · subst_vars
      refine EqX.up (EqX.rf) ?_ <;> decide
    · subst eI6
      simp [va_up, upd]
set_option maxHeartbeats 4000000 in
set_option maxRecDepth 100000 in
theorem c_X8_notedNumber (l : Launch) (D : va_G) (y : Nat → ClassId) (ad : Nat → Nat) (cap : Nat → Nat) (I : Nat → Nat → Int32) (J : Nat → Nat → Int64) (sz : Nat) (p1 : Int32) : Met l yX8_notedNumber [.code yX8_notedNumber cX8_notedNumber 2 (some .int)] ({ frames := 1, cells := 0, slots := 0, locals := 21 }) (va_Pc [.ref (ad 0), .int p1] (PW D y (Wd y ad cap I J) sz)) (va_Qi (fun (r : Int32) (u : St4) => r = p1 ∧ ∃ I', u = (ad, cap, I', J) ∧ EqX [0] I I' ∧ (¬ p1 = -1 → I' 0 4 = 1) ∧ (p1 = -1 → I' = I)) (Aft D (Wt y) (Wd y ad cap I J) sz) (va_A (Wd y ad cap I J) sz)) 0 0 (va_A (Wd y ad cap I J) sz) := by
  refine Met.ofW (cc := cX8_notedNumber) (maxL := 2) (ret := (some .int)) (by decide) rfl ?_
  intro p e s m args below meth c s₁ B hml hv
  obtain ⟨rfl, rfl, hP, hD0, hO⟩ := hv
  have hx := B.exec
  have hb := B.bytes
  have hr := B.returns
  have hown : s.vm.findClass RX8 = some m.cls := findClass_of_methodNamed B.named
  have hlocks := B.notSynchronized
  have hK := hO.1
  have hts : ∀ w ∈ lw_E, w.before ([.ref (ad 0), .int p1] : List Value).toArray s = true := fun w h => hO.2 w h _
  clear B
  have hD := hD0.self (sz := s.heap.size)
  generalize hAe : va_A (Wd y ad cap I J) s.heap.size = A at hD ⊢
  have hA : ∀ q : Nat, s.heap.size ≤ q → A q := fun q h => by rw [← hAe]; exact Or.inr h
  have hS : va_S A s.heap s.heap [] := va_S.rf
  have hl := lv_entry ([.ref (ad 0), .int p1]) (n := 2) (Nat.le_of_ble_eq_true rfl)
  rw [lg_entry_eq]
  generalize (lg_sl ([.ref (ad 0), .int p1]) ++ List.replicate (2 - (lg_sl ([.ref (ad 0), .int p1])).length) Slot.unset).toArray = ls at hl ⊢
  have hl : lv_has ls 2 [(0, .ref (ad 0)), (1, .int p1)] := hl
  refine lv_aload_n hx hb dX8_notedNumber_0 rfl (lv_at hl 0 rfl) ?_
  refine lv_iload_n hx hb dX8_notedNumber_1 rfl (lv_at hl 1 rfl) ?_
  refine lv_iconst (v := (-1)) hx hb dX8_notedNumber_2 (by decide) ?_
  refine lv_icmp_eq (tgt := 10) hx hb dX8_notedNumber_3 (by decide) (fun c3 => ?_) (fun c3 => ?_)
  · skip
    refine lv_iconst (v := 0) hx hb dX8_notedNumber_10 (by decide) ?_
    refine wk_i (Wf := Wt y) (run_v (As := [.int 0]) (rest := []) (b := (ad 0)) hx hb hml hown hO.2 (c_X8_noted l D y ad cap I J s.heap.size (q0 := 0) (by decide)) k_X8_noted ml_X8_78 ⟨rfl, rfl⟩ ⟨Nat.le_of_ble_eq_true rfl, Nat.le_of_ble_eq_true rfl⟩ (pre_VW hO hP hD (wd_0 y ad cap I J) rfl) rfl hl.1 rfl (Nat.le_of_ble_eq_true rfl) dX8_notedNumber_11 ⟨(Nat.zero_le _), (Nat.zero_le _)⟩) hD hS hA (fun r11 u11 H locs hp11 hP hD hS => ?_)
    try dsimp only at hp11
    obtain ⟨er11, I11, rfl, hE11, hY11, hN11⟩ := hp11
    have hP : va_P D vwCl (Wd y ad cap I11 J) H := hP
    have hD : va_D A (Wd y ad cap I11 J) := hD
    refine lv_pop hx hb dX8_notedNumber_14 rfl ?_
    refine lv_iload_n hx hb dX8_notedNumber_15 rfl (lv_at hl 1 rfl) ?_
    refine W.iret (v := p1) hx hb hr (fun t ht hW => ⟨⟨_, (ad, cap, I11, J), rfl, ?_, by rw [ht]; exact hP, by show va_D (va_A (Wd y ad cap I J) s.heap.size) _; rw [hAe]; exact hD⟩, hS.F ht⟩) hS.2.2 dX8_notedNumber_16
    refine ⟨rfl, I11, rfl, hE11, ?_, ?_⟩
    · intro h9
      first | exact absurd c3 h9 | exact hY11 rfl
    · intro h9
      first | exact absurd h9 c3 | exact hN11 rfl
  · skip
    refine lv_iconst (v := 1) hx hb dX8_notedNumber_6 (by decide) ?_
    refine lv_goto (tgt := 11) hx hb dX8_notedNumber_7 (by decide) ?_
    refine wk_i (Wf := Wt y) (run_v (As := [.int 1]) (rest := []) (b := (ad 0)) hx hb hml hown hO.2 (c_X8_noted l D y ad cap I J s.heap.size (q0 := 1) (by decide)) k_X8_noted ml_X8_78 ⟨rfl, rfl⟩ ⟨Nat.le_of_ble_eq_true rfl, Nat.le_of_ble_eq_true rfl⟩ (pre_VW hO hP hD (wd_0 y ad cap I J) rfl) rfl hl.1 rfl (Nat.le_of_ble_eq_true rfl) dX8_notedNumber_11 ⟨(Nat.zero_le _), (Nat.zero_le _)⟩) hD hS hA (fun r11 u11 H locs hp11 hP hD hS => ?_)
    try dsimp only at hp11
    obtain ⟨er11, I11, rfl, hE11, hY11, hN11⟩ := hp11
    have hP : va_P D vwCl (Wd y ad cap I11 J) H := hP
    have hD : va_D A (Wd y ad cap I11 J) := hD
    refine lv_pop hx hb dX8_notedNumber_14 rfl ?_
    refine lv_iload_n hx hb dX8_notedNumber_15 rfl (lv_at hl 1 rfl) ?_
    refine W.iret (v := p1) hx hb hr (fun t ht hW => ⟨⟨_, (ad, cap, I11, J), rfl, ?_, by rw [ht]; exact hP, by show va_D (va_A (Wd y ad cap I J) s.heap.size) _; rw [hAe]; exact hD⟩, hS.F ht⟩) hS.2.2 dX8_notedNumber_16
    refine ⟨rfl, I11, rfl, hE11, ?_, ?_⟩
    · intro h9
      first | exact absurd c3 h9 | exact hY11 rfl
    · intro h9
      first | exact absurd h9 c3 | exact hN11 rfl
