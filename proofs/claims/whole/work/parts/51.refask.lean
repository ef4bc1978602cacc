/-- the reference's cells of what is laid out; before any layout: nothing -/
def MLx (I : Nat → Nat → Int32) (J : Nat → Nat → Int64) (TL : Nat → Nat → Nat) (M : List Th) (R : Nat) : Prop := (I 55 20 = 0 ∧ (∀ r j, TL r j = 0) ∧ M = [] ∧ R = 0) ∨ ML I J TL M R
theorem TW_none {T : Nat → Nat → Nat} {M : List Th} (h : TW T M) (h0 : T 0 0 = 0) : M = [] := by
  rcases Nat.eq_zero_or_pos M.length with h9 | h9
  · exact List.length_eq_zero_iff.mp h9
  · have := (h.1 0 h9).1
    omega
theorem zN_i (z : Int) : (zN z).toInt32 = iN z := by
  unfold zN iN
  apply Int32.toBitVec_inj.mp
  show (BitVec.ofInt 64 z).signExtend 32 = BitVec.ofInt 32 z
  apply BitVec.eq_of_toNat_eq
  rw [BitVec.signExtend_eq_setWidth_of_le _ (by decide), BitVec.toNat_setWidth, BitVec.toNat_ofInt, BitVec.toNat_ofInt]
  omega
theorem ix_lt {n : Nat} (hn : n < 2 ^ 31) {p : Int32} (h0 : ¬ p < 0) (h : ¬ nI n ≤ p) : ∃ b : Nat, p = nI b ∧ b < n := ix_ok hn ⟨h0, h⟩
set_option maxHeartbeats 4000000 in
set_option maxRecDepth 100000 in
theorem c_X9_ways (l : Launch) (D : va_G) (y : Nat → ClassId) (ad : Nat → Nat) (cap : Nat → Nat) (I : Nat → Nat → Int32) (J : Nat → Nat → Int64) {TL : Nat → Nat → Nat} {M : List Th} {R : Nat} (hML : ML I J TL M R) (hW : WF TL) {p0 : Int32} {v0 : Nat} (hv0 : v0 < 2 ^ 31) (hp : p0 = nI v0) : Met l yX9_ways [.code yX9_ways cX9_ways 4 (some .int)] ({ frames := 0, cells := 0, slots := 0, locals := 0 }) (va_Pc [.ref (ad 55), .int p0] (PR D y (Wd y ad cap I J))) (vp_Si (fun r => r = nI (wc TL M v0 (TL 0 2)))) 0 0 (fun _ => False) := by
  refine Met.ofW (cc := cX9_ways) (maxL := 4) (ret := (some .int)) (by decide) rfl ?_
  intro p e s m args below meth c s₁ B hml hv
  obtain ⟨rfl, hP, hO⟩ := hv
  have hx := B.exec
  have hb := B.bytes
  have hr := B.returns
  have hown : s.vm.findClass RX9 = some m.cls := findClass_of_methodNamed B.named
  have hlocks := B.notSynchronized
  have hK := hO.1
  have hts : ∀ w ∈ lw_E, w.before ([.ref (ad 55), .int p0] : List Value).toArray s = true := fun w h => hO.2 w h _
  clear B
  have hl := lv_entry ([.ref (ad 55), .int p0]) (n := 4) (Nat.le_of_ble_eq_true rfl)
  rw [lg_entry_eq]
  generalize (lg_sl ([.ref (ad 55), .int p0]) ++ List.replicate (4 - (lg_sl ([.ref (ad 55), .int p0])).length) Slot.unset).toArray = ls at hl ⊢
  have hl : lv_has ls 4 [(0, .ref (ad 55)), (1, .int p0)] := hl
  obtain ⟨⟨m20, m21, m22, m23, m24, m25, m40, m41, m26⟩, ⟨hTWM, htz0⟩, m69, hK9, mB, mT, hA⟩ := hML
  have hW0 := hW
  obtain ⟨⟨w1, w2, w3, w4, w5, w6, w7⟩, wS, wL, wB, wK, wTk, wT0⟩ := hW
  have hlM : M.length ≤ 2400 := TW_len hW0 hTWM
  have hnM : ∀ s, cnt M s ≤ 2400 := fun s => Nat.le_trans (cnt_le M s) hlM
  refine lv_iconst (v := 0) hx hb dX9_ways_0 (by decide) ?_
  rw [show (0 : Int32) = (nI (wc TL M v0 0)) from rfl]
  refine lv_istore_n (lv' := [(2, .int (nI (wc TL M v0 0))), (0, .ref (ad 55)), (1, .int p0)]) hx hb dX9_ways_1 rfl hl (by decide) rfl (fun ls hl => ?_)
  refine lv_iconst (v := 0) hx hb dX9_ways_2 (by decide) ?_
  rw [show (0 : Int32) = (nI 0) from rfl]
  refine lv_istore_n (lv' := [(3, .int (nI 0)), (2, .int (nI (wc TL M v0 0))), (0, .ref (ad 55)), (1, .int p0)]) hx hb dX9_ways_3 rfl hl (by decide) rfl (fun ls hl => ?_)
  have loop4 : ∀ (n4 : Nat) (k : Nat) , (k ≤ TL 0 2) → TL 0 2 + 1 ≤ k + n4 → ∀ ls : Array Slot, lv_has ls 4 [(0, .ref (ad 55)), (1, .int p0), (2, .int (nI (wc TL M v0 k))), (3, .int (nI k))] → W p l e (headSpec [.code yX9_ways cX9_ways 4 (some .int)] ({ frames := 0, cells := 0, slots := 0, locals := 0 })).room s m ([.ref (ad 55), .int p0] : List Value).toArray below meth c s.heap [] 0 0 (MQ below (vp_Si (fun r => r = nI (wc TL M v0 (TL 0 2)))) ([.ref (ad 55), .int p0] : List Value).toArray s 0 0 (fun _ => False)) (F0 m 4 ls []) := by
    intro n4
    induction n4 with
    | zero =>
      intro k hk hmeas
      exact absurd hmeas (by omega)
    | succ n4 ih4 =>
      intro k hk hmeas ls hl
      refine lv_iload_n hx hb dX9_ways_4 rfl (lv_at hl 3 rfl) ?_
      refine lv_aload_n hx hb dX9_ways_5 rfl (lv_at hl 0 rfl) ?_
      refine va_get (D := D) (T := TX9) (N := 51) hx hb hts jnX9 hown hK hP 55 (wd_55 y ad cap I J) rfl 23 (by decide) (hts _ fl_X9_196) (fun _ h9 => h9) rfl dX9_ways_6 ?_
      refine lv_topi (fun v6 ev6 => ?_)
      obtain rfl : v6 = (nI (TL 0 2)) := by
        rw [ev6]; exact m23
      refine lv_icmp_ge (tgt := 36) hx hb dX9_ways_9 (by decide) (fun c9 => ?_) (fun c9 => ?_)
      · skip
        have c9 := (nI_leI (a := (TL 0 2)) (b := k) (by omega) (by omega)).mp c9
        refine lv_iload_n hx hb dX9_ways_36 rfl (lv_at hl 2 rfl) ?_
        refine W.iret (v := (nI (wc TL M v0 k))) hx hb hr (fun t ht hW => ⟨_, rfl, ?_, ht⟩) (fun _ h => nomatch h) dX9_ways_37
        have : k = TL 0 2 := by omega
        rw [this]
      · skip
        have c9 := mt (nI_leI (a := (TL 0 2)) (b := k) (by omega) (by omega)).mpr c9
        have hwc := wc_le TL M v0 k
        have hwy : wyB TL M k < 2 ^ 31 := by unfold wyB; split; omega; split <;> omega
        refine lv_iload_n hx hb dX9_ways_12 rfl (lv_at hl 2 rfl) ?_
        refine lv_aload_n hx hb dX9_ways_13 rfl (lv_at hl 0 rfl) ?_
        refine va_get (D := D) (T := TX9) (N := 51) hx hb hts jnX9 hown hK hP 55 (wd_55 y ad cap I J) rfl 36 (by decide) (hts _ fl_X9_69) (fun _ h9 => h9) rfl dX9_ways_14 ?_
        refine lv_iload_n hx hb dX9_ways_17 rfl (lv_at hl 3 rfl) ?_
        refine va_iald (D := D) hx hb hK hP 75 0 (wd_75 y ad cap I J) rfl (vp_in_nI (by omega) (by omega)) dX9_ways_18 ?_
        rw [nI_clamp (n := k) (by omega)]
        refine lv_topi (fun v18 ev18 => ?_)
        obtain rfl : v18 = (nI (wyB TL M k)) := by
          rw [ev18]; exact (mB _ (by omega)).2.2.1
        refine lv_iload_n hx hb dX9_ways_19 rfl (lv_at hl 1 rfl) ?_
        refine lv_icmp_ne (tgt := 27) hx hb dX9_ways_20 (by decide) (fun c20 => ?_) (fun c20 => ?_)
        · skip
          have eN : wc TL M v0 (k + 1) = wc TL M v0 k + 0 := by simp only [wc]; rw [if_neg (fun h9 => c20 (by rw [h9, hp]))]
          refine lv_iconst (v := 0) hx hb dX9_ways_27 (by decide) ?_
          refine lv_iadd hx hb dX9_ways_28 ?_
          refine lv_topi (fun v28 ev28 => ?_)
          obtain rfl : v28 = (nI (wc TL M v0 k + 0)) := by
            rw [ev28]; exact nI_add _ _
          refine lv_istore_n (lv' := [(2, .int (nI (wc TL M v0 k + 0))), (0, .ref (ad 55)), (1, .int p0), (3, .int (nI k))]) hx hb dX9_ways_29 rfl hl (by decide) rfl (fun ls hl => ?_)
          refine lv_iinc (v := (nI (k + 1))) (lv' := [(3, .int (nI (k + 1))), (2, .int (nI (wc TL M v0 k + 0))), (0, .ref (ad 55)), (1, .int p0)]) hx hb dX9_ways_30 hl (k := 3) rfl (nI_1 _) (by decide) rfl (fun ls hl => ?_)
          refine lv_goto (tgt := 4) hx hb dX9_ways_33 (by decide) ?_
          exact ih4 (k + 1) (by omega) (by omega) ls (by rw [eN]; exact lv_sub hl [2, 3, 1, 0] rfl)
        · skip
          have eN : wc TL M v0 (k + 1) = wc TL M v0 k + 1 := by simp only [wc]; rw [if_pos ((nI_eq (by omega) (by omega)).mp (c20.trans hp))]
          refine lv_iconst (v := 1) hx hb dX9_ways_23 (by decide) ?_
          refine lv_goto (tgt := 28) hx hb dX9_ways_24 (by decide) ?_
          refine lv_iadd hx hb dX9_ways_28 ?_
          refine lv_topi (fun v28 ev28 => ?_)
          obtain rfl : v28 = (nI (wc TL M v0 k + 1)) := by
            rw [ev28]; exact nI_add _ _
          refine lv_istore_n (lv' := [(2, .int (nI (wc TL M v0 k + 1))), (0, .ref (ad 55)), (1, .int p0), (3, .int (nI k))]) hx hb dX9_ways_29 rfl hl (by decide) rfl (fun ls hl => ?_)
          refine lv_iinc (v := (nI (k + 1))) (lv' := [(3, .int (nI (k + 1))), (2, .int (nI (wc TL M v0 k + 1))), (0, .ref (ad 55)), (1, .int p0)]) hx hb dX9_ways_30 hl (k := 3) rfl (nI_1 _) (by decide) rfl (fun ls hl => ?_)
          refine lv_goto (tgt := 4) hx hb dX9_ways_33 (by decide) ?_
          exact ih4 (k + 1) (by omega) (by omega) ls (by rw [eN]; exact lv_sub hl [2, 3, 1, 0] rfl)
  exact loop4 (TL 0 2 + 1) 0 (by omega) (by omega) ls (by exact lv_sub hl [2, 3, 1, 0] rfl)
set_option maxHeartbeats 4000000 in
set_option maxRecDepth 100000 in
theorem c_X9_idle (l : Launch) (D : va_G) (y : Nat → ClassId) (ad : Nat → Nat) (cap : Nat → Nat) (I : Nat → Nat → Int32) (J : Nat → Nat → Int64) {TL : Nat → Nat → Nat} {M : List Th} {R : Nat} (hML : ML I J TL M R) (hW : WF TL) : Met l yX9_idle [.code yX9_idle cX9_idle 3 (some .int)] ({ frames := 0, cells := 0, slots := 0, locals := 0 }) (va_Pc [.ref (ad 55)] (PR D y (Wd y ad cap I J))) (vp_Si (fun r => r = nI (nuls (fun t => us TL M t (TL 0 2)) M.length))) 0 0 (fun _ => False) := by
  refine Met.ofW (cc := cX9_idle) (maxL := 3) (ret := (some .int)) (by decide) rfl ?_
  intro p e s m args below meth c s₁ B hml hv
  obtain ⟨rfl, hP, hO⟩ := hv
  have hx := B.exec
  have hb := B.bytes
  have hr := B.returns
  have hown : s.vm.findClass RX9 = some m.cls := findClass_of_methodNamed B.named
  have hlocks := B.notSynchronized
  have hK := hO.1
  have hts : ∀ w ∈ lw_E, w.before ([.ref (ad 55)] : List Value).toArray s = true := fun w h => hO.2 w h _
  clear B
  have hl := lv_entry ([.ref (ad 55)]) (n := 3) (Nat.le_of_ble_eq_true rfl)
  rw [lg_entry_eq]
  generalize (lg_sl ([.ref (ad 55)]) ++ List.replicate (3 - (lg_sl ([.ref (ad 55)])).length) Slot.unset).toArray = ls at hl ⊢
  have hl : lv_has ls 3 [(0, .ref (ad 55))] := hl
  obtain ⟨⟨m20, m21, m22, m23, m24, m25, m40, m41, m26⟩, ⟨hTWM, htz0⟩, m69, hK9, mB, mT, hA⟩ := hML
  have hW0 := hW
  obtain ⟨⟨w1, w2, w3, w4, w5, w6, w7⟩, wS, wL, wB, wK, wTk, wT0⟩ := hW
  have hlM : M.length ≤ 2400 := TW_len hW0 hTWM
  have hnM : ∀ s, cnt M s ≤ 2400 := fun s => Nat.le_trans (cnt_le M s) hlM
  refine lv_iconst (v := 0) hx hb dX9_idle_0 (by decide) ?_
  rw [show (0 : Int32) = (nI (nuls (fun t => us TL M t (TL 0 2)) 0)) from rfl]
  refine lv_istore_n (lv' := [(1, .int (nI (nuls (fun t => us TL M t (TL 0 2)) 0))), (0, .ref (ad 55))]) hx hb dX9_idle_1 rfl hl (by decide) rfl (fun ls hl => ?_)
  refine lv_iconst (v := 0) hx hb dX9_idle_2 (by decide) ?_
  rw [show (0 : Int32) = (nI 0) from rfl]
  refine lv_istore_n (lv' := [(2, .int (nI 0)), (1, .int (nI (nuls (fun t => us TL M t (TL 0 2)) 0))), (0, .ref (ad 55))]) hx hb dX9_idle_3 rfl hl (by decide) rfl (fun ls hl => ?_)
  have loop4 : ∀ (n4 : Nat) (k : Nat) , (k ≤ M.length) → M.length + 1 ≤ k + n4 → ∀ ls : Array Slot, lv_has ls 3 [(0, .ref (ad 55)), (1, .int (nI (nuls (fun t => us TL M t (TL 0 2)) k))), (2, .int (nI k))] → W p l e (headSpec [.code yX9_idle cX9_idle 3 (some .int)] ({ frames := 0, cells := 0, slots := 0, locals := 0 })).room s m ([.ref (ad 55)] : List Value).toArray below meth c s.heap [] 0 0 (MQ below (vp_Si (fun r => r = nI (nuls (fun t => us TL M t (TL 0 2)) M.length))) ([.ref (ad 55)] : List Value).toArray s 0 0 (fun _ => False)) (F0 m 4 ls []) := by
    intro n4
    induction n4 with
    | zero =>
      intro k hk hmeas
      exact absurd hmeas (by omega)
    | succ n4 ih4 =>
      intro k hk hmeas ls hl
      refine lv_iload_n hx hb dX9_idle_4 rfl (lv_at hl 2 rfl) ?_
      refine lv_aload_n hx hb dX9_idle_5 rfl (lv_at hl 0 rfl) ?_
      refine va_get (D := D) (T := TX9) (N := 51) hx hb hts jnX9 hown hK hP 55 (wd_55 y ad cap I J) rfl 24 (by decide) (hts _ fl_X9_180) (fun _ h9 => h9) rfl dX9_idle_6 ?_
      refine lv_topi (fun v6 ev6 => ?_)
      obtain rfl : v6 = (nI M.length) := by
        rw [ev6]; exact m24
      refine lv_icmp_ge (tgt := 35) hx hb dX9_idle_9 (by decide) (fun c9 => ?_) (fun c9 => ?_)
      · skip
        have c9 := (nI_leI (a := M.length) (b := k) (by omega) (by omega)).mp c9
        refine lv_iload_n hx hb dX9_idle_35 rfl (lv_at hl 1 rfl) ?_
        refine W.iret (v := (nI (nuls (fun t => us TL M t (TL 0 2)) k))) hx hb hr (fun t ht hW => ⟨_, rfl, ?_, ht⟩) (fun _ h => nomatch h) dX9_idle_36
        have : k = M.length := by omega
        rw [this]
      · skip
        have c9 := mt (nI_leI (a := M.length) (b := k) (by omega) (by omega)).mpr c9
        have hul := us_le TL M k (TL 0 2)
        have hnl := nuls_le (fun t => us TL M t (TL 0 2)) k
        refine lv_iload_n hx hb dX9_idle_12 rfl (lv_at hl 1 rfl) ?_
        refine lv_aload_n hx hb dX9_idle_13 rfl (lv_at hl 0 rfl) ?_
        refine va_get (D := D) (T := TX9) (N := 51) hx hb hts jnX9 hown hK hP 55 (wd_55 y ad cap I J) rfl 47 (by decide) (hts _ fl_X9_96) (fun _ h9 => h9) rfl dX9_idle_14 ?_
        refine lv_iload_n hx hb dX9_idle_17 rfl (lv_at hl 2 rfl) ?_
        refine va_iald (D := D) hx hb hK hP 84 0 (wd_84 y ad cap I J) rfl (vp_in_nI (by omega) (by omega)) dX9_idle_18 ?_
        rw [nI_clamp (n := k) (by omega)]
        refine lv_topi (fun v18 ev18 => ?_)
        obtain rfl : v18 = (nI (us TL M k (TL 0 2))) := by
          rw [ev18]; exact (mT _ (by omega)).2
        refine lv_if_ne (tgt := 26) hx hb dX9_idle_19 (by decide) (fun c19 => ?_) (fun c19 => ?_)
        · skip
          have eN : nuls (fun t => us TL M t (TL 0 2)) (k + 1) = nuls (fun t => us TL M t (TL 0 2)) k + 0 := by simp only [nuls]; rw [if_neg (fun h9 => c19 (by rw [h9]; rfl))]
          refine lv_iconst (v := 0) hx hb dX9_idle_26 (by decide) ?_
          refine lv_iadd hx hb dX9_idle_27 ?_
          refine lv_topi (fun v27 ev27 => ?_)
          obtain rfl : v27 = (nI (nuls (fun t => us TL M t (TL 0 2)) k + 0)) := by
            rw [ev27]; exact nI_add _ _
          refine lv_istore_n (lv' := [(1, .int (nI (nuls (fun t => us TL M t (TL 0 2)) k + 0))), (0, .ref (ad 55)), (2, .int (nI k))]) hx hb dX9_idle_28 rfl hl (by decide) rfl (fun ls hl => ?_)
          refine lv_iinc (v := (nI (k + 1))) (lv' := [(2, .int (nI (k + 1))), (1, .int (nI (nuls (fun t => us TL M t (TL 0 2)) k + 0))), (0, .ref (ad 55))]) hx hb dX9_idle_29 hl (k := 2) rfl (nI_1 _) (by decide) rfl (fun ls hl => ?_)
          refine lv_goto (tgt := 4) hx hb dX9_idle_32 (by decide) ?_
          exact ih4 (k + 1) (by omega) (by omega) ls (by rw [eN]; exact lv_sub hl [2, 1, 0] rfl)
        · skip
          have eN : nuls (fun t => us TL M t (TL 0 2)) (k + 1) = nuls (fun t => us TL M t (TL 0 2)) k + 1 := by simp only [nuls]; rw [if_pos ((nI_z (by omega)).mp c19)]
          refine lv_iconst (v := 1) hx hb dX9_idle_22 (by decide) ?_
          refine lv_goto (tgt := 27) hx hb dX9_idle_23 (by decide) ?_
          refine lv_iadd hx hb dX9_idle_27 ?_
          refine lv_topi (fun v27 ev27 => ?_)
          obtain rfl : v27 = (nI (nuls (fun t => us TL M t (TL 0 2)) k + 1)) := by
            rw [ev27]; exact nI_add _ _
          refine lv_istore_n (lv' := [(1, .int (nI (nuls (fun t => us TL M t (TL 0 2)) k + 1))), (0, .ref (ad 55)), (2, .int (nI k))]) hx hb dX9_idle_28 rfl hl (by decide) rfl (fun ls hl => ?_)
          refine lv_iinc (v := (nI (k + 1))) (lv' := [(2, .int (nI (k + 1))), (1, .int (nI (nuls (fun t => us TL M t (TL 0 2)) k + 1))), (0, .ref (ad 55))]) hx hb dX9_idle_29 hl (k := 2) rfl (nI_1 _) (by decide) rfl (fun ls hl => ?_)
          refine lv_goto (tgt := 4) hx hb dX9_idle_32 (by decide) ?_
          exact ih4 (k + 1) (by omega) (by omega) ls (by rw [eN]; exact lv_sub hl [2, 1, 0] rfl)
  exact loop4 (M.length + 1) 0 (by omega) (by omega) ls (by exact lv_sub hl [2, 1, 0] rfl)
set_option maxHeartbeats 4000000 in
set_option maxRecDepth 100000 in
theorem c_X9_between (l : Launch) (D : va_G) (y : Nat → ClassId) (ad : Nat → Nat) (cap : Nat → Nat) (I : Nat → Nat → Int32) (J : Nat → Nat → Int64) {TL : Nat → Nat → Nat} {M : List Th} {R : Nat} (hML : ML I J TL M R) (hW : WF TL) : Met l yX9_between [.code yX9_between cX9_between 4 (some .long)] ({ frames := 0, cells := 0, slots := 0, locals := 0 }) (va_Pc [.ref (ad 55)] (PR D y (Wd y ad cap I J))) (vp_Sl (fun r => r = zN ((sAt TL (cnt M) (TL 0 0) : Int) - TL 0 4 - M.length * TL 0 5 - ((sumS TL (TL 0 0) : Nat) : Int)))) 0 0 (fun _ => False) := by
  refine Met.ofW (cc := cX9_between) (maxL := 4) (ret := (some .long)) (by decide) rfl ?_
  intro p e s m args below meth c s₁ B hml hv
  obtain ⟨rfl, hP, hO⟩ := hv
  have hx := B.exec
  have hb := B.bytes
  have hr := B.returns
  have hown : s.vm.findClass RX9 = some m.cls := findClass_of_methodNamed B.named
  have hlocks := B.notSynchronized
  have hK := hO.1
  have hts : ∀ w ∈ lw_E, w.before ([.ref (ad 55)] : List Value).toArray s = true := fun w h => hO.2 w h _
  clear B
  have hl := lv_entry ([.ref (ad 55)]) (n := 4) (Nat.le_of_ble_eq_true rfl)
  rw [lg_entry_eq]
  generalize (lg_sl ([.ref (ad 55)]) ++ List.replicate (4 - (lg_sl ([.ref (ad 55)])).length) Slot.unset).toArray = ls at hl ⊢
  have hl : lv_has ls 4 [(0, .ref (ad 55))] := hl
  obtain ⟨⟨m20, m21, m22, m23, m24, m25, m40, m41, m26⟩, ⟨hTWM, htz0⟩, m69, hK9, mB, mT, hA⟩ := hML
  have hW0 := hW
  obtain ⟨⟨w1, w2, w3, w4, w5, w6, w7⟩, wS, wL, wB, wK, wTk, wT0⟩ := hW
  have hlM : M.length ≤ 2400 := TW_len hW0 hTWM
  have hnM : ∀ s, cnt M s ≤ 2400 := fun s => Nat.le_trans (cnt_le M s) hlM
  refine lv_aload_n hx hb dX9_between_0 rfl (lv_at hl 0 rfl) ?_
  refine va_get (D := D) (T := TX9) (N := 51) hx hb hts jnX9 hown hK hP 55 (wd_55 y ad cap I J) rfl 27 (by decide) (hts _ fl_X9_143) (fun _ h9 => h9) rfl dX9_between_1 ?_
  refine lv_topl (fun v1 ev1 => ?_)
  obtain rfl : v1 = (lN (sAt TL (cnt M) (TL 0 0))) := by
    rw [ev1]; exact hA.2.2.2.2
  refine lv_aload_n hx hb dX9_between_4 rfl (lv_at hl 0 rfl) ?_
  refine va_get (D := D) (T := TX9) (N := 51) hx hb hts jnX9 hown hK hP 55 (wd_55 y ad cap I J) rfl 26 (by decide) (hts _ fl_X9_199) (fun _ h9 => h9) rfl dX9_between_5 ?_
  refine lv_topl (fun v5 ev5 => ?_)
  obtain rfl : v5 = (lN (TL 0 4)) := by
    rw [ev5]; exact m26
  refine lv_lsub hx hb dX9_between_8 ?_
  refine lv_topl (fun v8 ev8 => ?_)
  obtain rfl : v8 = (zN ((sAt TL (cnt M) (TL 0 0) : Int) - TL 0 4 - ((sumS TL 0 : Nat) : Int))) := by
    rw [ev8, lN_z, lN_z, zN_sub]; simp [sumS]
  refine lv_lstore_n (lv' := [(1, .long (zN ((sAt TL (cnt M) (TL 0 0) : Int) - TL 0 4 - ((sumS TL 0 : Nat) : Int)))), (0, .ref (ad 55))]) hx hb dX9_between_9 rfl hl (by decide) rfl (fun ls hl => ?_)
  refine lv_iconst (v := 0) hx hb dX9_between_10 (by decide) ?_
  rw [show (0 : Int32) = (nI 0) from rfl]
  refine lv_istore_n (lv' := [(3, .int (nI 0)), (1, .long (zN ((sAt TL (cnt M) (TL 0 0) : Int) - TL 0 4 - ((sumS TL 0 : Nat) : Int)))), (0, .ref (ad 55))]) hx hb dX9_between_11 rfl hl (by decide) rfl (fun ls hl => ?_)
  have loop12 : ∀ (n12 : Nat) (k : Nat) , (k ≤ TL 0 0) → TL 0 0 + 1 ≤ k + n12 → ∀ ls : Array Slot, lv_has ls 4 [(0, .ref (ad 55)), (1, .long (zN ((sAt TL (cnt M) (TL 0 0) : Int) - TL 0 4 - ((sumS TL k : Nat) : Int)))), (3, .int (nI k))] → W p l e (headSpec [.code yX9_between cX9_between 4 (some .long)] ({ frames := 0, cells := 0, slots := 0, locals := 0 })).room s m ([.ref (ad 55)] : List Value).toArray below meth c s.heap [] 0 0 (MQ below (vp_Sl (fun r => r = zN ((sAt TL (cnt M) (TL 0 0) : Int) - TL 0 4 - M.length * TL 0 5 - ((sumS TL (TL 0 0) : Nat) : Int)))) ([.ref (ad 55)] : List Value).toArray s 0 0 (fun _ => False)) (F0 m 12 ls []) := by
    intro n12
    induction n12 with
    | zero =>
      intro k hk hmeas
      exact absurd hmeas (by omega)
    | succ n12 ih12 =>
      intro k hk hmeas ls hl
      refine lv_iload_n hx hb dX9_between_12 rfl (lv_at hl 2 rfl) ?_
      refine lv_aload_n hx hb dX9_between_13 rfl (lv_at hl 0 rfl) ?_
      refine va_get (D := D) (T := TX9) (N := 51) hx hb hts jnX9 hown hK hP 55 (wd_55 y ad cap I J) rfl 21 (by decide) (hts _ fl_X9_190) (fun _ h9 => h9) rfl dX9_between_14 ?_
      refine lv_topi (fun v14 ev14 => ?_)
      obtain rfl : v14 = (nI (TL 0 0)) := by
        rw [ev14]; exact m21
      refine lv_icmp_ge (tgt := 42) hx hb dX9_between_17 (by decide) (fun c17 => ?_) (fun c17 => ?_)
      · skip
        have c17 := (nI_leI (a := (TL 0 0)) (b := k) (by omega) (by omega)).mp c17
        refine lv_lload_n hx hb dX9_between_42 rfl (lv_at hl 1 rfl) ?_
        refine lv_aload_n hx hb dX9_between_43 rfl (lv_at hl 0 rfl) ?_
        refine va_get (D := D) (T := TX9) (N := 51) hx hb hts jnX9 hown hK hP 55 (wd_55 y ad cap I J) rfl 24 (by decide) (hts _ fl_X9_180) (fun _ h9 => h9) rfl dX9_between_44 ?_
        refine lv_topi (fun v44 ev44 => ?_)
        obtain rfl : v44 = (nI M.length) := by
          rw [ev44]; exact m24
        refine lv_i2l (v := lN M.length) hx hb dX9_between_47 (nI_l (by omega)) ?_
        refine lv_aload_n hx hb dX9_between_48 rfl (lv_at hl 0 rfl) ?_
        refine va_get (D := D) (T := TX9) (N := 51) hx hb hts jnX9 hown hK hP 55 (wd_55 y ad cap I J) rfl 40 (by decide) (hts _ fl_X9_202) (fun _ h9 => h9) rfl dX9_between_49 ?_
        refine lv_topi (fun v49 ev49 => ?_)
        obtain rfl : v49 = (nI (TL 0 5)) := by
          rw [ev49]; exact m40
        refine lv_i2l (v := lN (TL 0 5)) hx hb dX9_between_52 (nI_l (by omega)) ?_
        refine lv_lmul hx hb dX9_between_53 ?_
        refine lv_topl (fun v53 ev53 => ?_)
        obtain rfl : v53 = (lN (M.length * TL 0 5)) := by
          rw [ev53, lN_mul]
        refine lv_lsub hx hb dX9_between_54 ?_
        refine lv_topl (fun v54 ev54 => ?_)
        refine W.lret (v := v54) hx hb hr (fun t ht hW => ⟨_, rfl, ?_, ht⟩) (fun _ h => nomatch h) dX9_between_55
        have : k = TL 0 0 := by omega
        rw [ev54, this, lN_z, zN_sub]
        congr 1
        simp only [Int.natCast_mul]
        omega
      · skip
        have c17 := mt (nI_leI (a := (TL 0 0)) (b := k) (by omega) (by omega)).mpr c17
        refine lv_lload_n hx hb dX9_between_20 rfl (lv_at hl 1 rfl) ?_
        refine lv_aload_n hx hb dX9_between_21 rfl (lv_at hl 0 rfl) ?_
        refine va_get (D := D) (T := TX9) (N := 51) hx hb hts jnX9 hown hK hP 55 (wd_55 y ad cap I J) rfl 29 (by decide) (hts _ fl_X9_48) (fun _ h9 => h9) rfl dX9_between_22 ?_
        refine lv_iload_n hx hb dX9_between_25 rfl (lv_at hl 2 rfl) ?_
        refine va_lald (D := D) hx hb hK hP 68 1 (wd_68 y ad cap I J) rfl (vp_in_nI (by omega) (by omega)) dX9_between_26 ?_
        rw [nI_clamp (n := k) (by omega)]
        refine lv_topl (fun v26 ev26 => ?_)
        obtain rfl : v26 = (lN (sA TL (cnt M) k + TL 1 k)) := by
          rw [ev26]; exact (hA.1 _ (by omega)).2.1
        refine lv_aload_n hx hb dX9_between_27 rfl (lv_at hl 0 rfl) ?_
        refine va_get (D := D) (T := TX9) (N := 51) hx hb hts jnX9 hown hK hP 55 (wd_55 y ad cap I J) rfl 28 (by decide) (hts _ fl_X9_44) (fun _ h9 => h9) rfl dX9_between_28 ?_
        refine lv_iload_n hx hb dX9_between_31 rfl (lv_at hl 2 rfl) ?_
        refine va_lald (D := D) hx hb hK hP 67 1 (wd_67 y ad cap I J) rfl (vp_in_nI (by omega) (by omega)) dX9_between_32 ?_
        rw [nI_clamp (n := k) (by omega)]
        refine lv_topl (fun v32 ev32 => ?_)
        obtain rfl : v32 = (lN (sA TL (cnt M) k)) := by
          rw [ev32]; exact (hA.1 _ (by omega)).1
        refine lv_lsub hx hb dX9_between_33 ?_
        refine lv_topl (fun v33 ev33 => ?_)
        obtain rfl : v33 = (lN (TL 1 k)) := by
          rw [ev33, lN_sub (by omega)]; congr 1; omega
        refine lv_lsub hx hb dX9_between_34 ?_
        refine lv_topl (fun v34 ev34 => ?_)
        obtain rfl : v34 = (zN ((sAt TL (cnt M) (TL 0 0) : Int) - TL 0 4 - ((sumS TL (k + 1) : Nat) : Int))) := by
          rw [ev34, lN_z, zN_sub]; congr 1; simp only [sumS]; omega
        refine lv_lstore_n (lv' := [(1, .long (zN ((sAt TL (cnt M) (TL 0 0) : Int) - TL 0 4 - ((sumS TL (k + 1) : Nat) : Int)))), (0, .ref (ad 55)), (3, .int (nI k))]) hx hb dX9_between_35 rfl hl (by decide) rfl (fun ls hl => ?_)
        refine lv_iinc (v := (nI (k + 1))) (lv' := [(3, .int (nI (k + 1))), (1, .long (zN ((sAt TL (cnt M) (TL 0 0) : Int) - TL 0 4 - ((sumS TL (k + 1) : Nat) : Int)))), (0, .ref (ad 55))]) hx hb dX9_between_36 hl (k := 2) rfl (nI_1 _) (by decide) rfl (fun ls hl => ?_)
        refine lv_goto (tgt := 12) hx hb dX9_between_39 (by decide) ?_
        exact ih12 (k + 1) (by omega) (by omega) ls (by exact lv_sub hl [2, 1, 0] rfl)
  exact loop12 (TL 0 0 + 1) 0 (by omega) (by omega) ls (by exact lv_sub hl [2, 1, 0] rfl)
