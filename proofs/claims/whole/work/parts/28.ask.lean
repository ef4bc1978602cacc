def wc (TL : Nat → Nat → Nat) (M : List Th) (v : Nat) : Nat → Nat
  | 0 => 0
  | b + 1 => wc TL M v b + if wyB TL M b = v then 1 else 0
def qCount (T : Nat → Nat → Nat) (fl : Nat) (TL : Nat → Nat → Nat) (M : List Th) (R : Nat) (p : Int32) : Int32 := if p = 0 then nI R else (if p = 1 then nI M.length else (if p = 2 then nI (wc TL M 0 (TL 0 2)) else (if p = 3 then nI (wc TL M 1 (TL 0 2)) else (if p = 4 then nI (wc TL M 2 (TL 0 2)) else (if p = 5 then nI (nuls (fun t => us TL M t (TL 0 2)) M.length) else (if p = 6 then iN ((sAt TL (cnt M) (TL 0 0) : Int) - TL 0 4 - M.length * TL 0 5 - ((sumS TL (TL 0 0) : Nat) : Int)) else (if p = 7 then nI (sAt TL (cnt M) (TL 0 0) - TL 0 4) else (if p = 10 then nI (T 0 0) else (if p = 11 then nI (T 0 1) else (if p = 12 then nI (T 0 2) else (if p = 13 then nI (T 0 3) else (if p = 14 then nI fl else (-1)))))))))))))
def qAddr (TL : Nat → Nat → Nat) (M : List Th) (p q : Int32) : Int64 := if p = 0 then match ix (TL 0 0) q with
  | some s => lN (sA TL (cnt M) s)
  | none => (-9223372036854775808) else (if p = 1 then match ix (TL 0 1) q with
  | some s => lN (labA TL (cnt M) s)
  | none => (-9223372036854775808) else (if p = 2 then match ix (TL 0 2) q with
  | some s => lN (braA TL (cnt M) s)
  | none => (-9223372036854775808) else (if p = 3 then match ix M.length q with
  | some s => lN (plc TL M s)
  | none => (-9223372036854775808) else (if p = 4 then match ix (TL 0 0) q with
  | some s => if TL 3 s = 0 then (-9223372036854775808) else lN (pE TL (cnt M) s)
  | none => (-9223372036854775808) else ((-9223372036854775808))))))
def qRoute (TL : Nat → Nat → Nat) (M : List Th) (q p : Int32) : Int32 := match ix (TL 0 2) q with
  | none => -1
  | some b => if p = 0 then nI (wyB TL M b) else (if p = 1 then oI (rtB TL M b) else (-1))
def qThunk (TL : Nat → Nat → Nat) (M : List Th) (q p : Int32) : Int32 := match ix M.length q with
  | none => -1
  | some t => if p = 0 then nI (thA M t).1 else (if p = 1 then nI (thA M t).2.1 else (if p = 2 then nI (thA M t).2.2.1 else (if p = 3 then nI (thA M t).2.2.2 else (if p = 4 then nI (us TL M t (TL 0 2)) else (if p = 5 then nI (rk M t) else (-1))))))
def qEnc (TL : Nat → Nat → Nat) (M : List Th) (p q : Int32) : Int32 := if p = 0 then oI ((ix (TL 0 2) q).bind (cdB TL M)) else (if p = 1 then oI ((ix M.length q).bind (cdT TL M)) else (-1))
/-- what the class's cells hold: T told now, fl told since; TL, M laid out, in R rounds -/
def CI (I : Nat → Nat → Int32) (J : Nat → Nat → Int64) (cap : Nat) (T : Nat → Nat → Nat) (fl : Nat) (TL : Nat → Nat → Nat) (M : List Th) (R : Nat) : Prop := RT1 I T ∧ WF T ∧ (I 0 4 = nI fl ∧ fl ≤ 1) ∧ RT18 I TL ∧ WF TL ∧ LQ I J TL cap M ∧ (I 17 5 = nI R ∧ I 17 6 = nI (wc TL M 0 (TL 0 2)) ∧ I 17 7 = nI (wc TL M 1 (TL 0 2)) ∧ I 17 8 = nI (wc TL M 2 (TL 0 2)))
set_option maxHeartbeats 4000000 in
set_option maxRecDepth 100000 in
theorem c_X8_count (l : Launch) (D : va_G) (y : Nat → ClassId) (ad : Nat → Nat) (cap : Nat → Nat) (I : Nat → Nat → Int32) (J : Nat → Nat → Int64) {T : Nat → Nat → Nat} {fl : Nat} {TL : Nat → Nat → Nat} {M : List Th} {R : Nat} (hC : CI I J (cap 0) T fl TL M R) (p1 : Int32) : Met l yX8_count [.code yX8_count cX8_count 2 (some .int)] ({ frames := 2, cells := 0, slots := 0, locals := 42 }) (va_Pc [.ref (ad 0), .int p1] (PR D y (Wd y ad cap I J))) (vp_Si (fun r => r = qCount T fl TL M R p1)) 0 0 (fun _ => False) := by
  refine Met.ofW (cc := cX8_count) (maxL := 2) (ret := (some .int)) (by decide) rfl ?_
  intro p e s m args below meth c s₁ B hml hv
  obtain ⟨rfl, hP, hO⟩ := hv
  have hx := B.exec
  have hb := B.bytes
  have hr := B.returns
  have hown : s.vm.findClass RX8 = some m.cls := findClass_of_methodNamed B.named
  have hlocks := B.notSynchronized
  have hK := hO.1
  have hts : ∀ w ∈ lw_E, w.before ([.ref (ad 0), .int p1] : List Value).toArray s = true := fun w h => hO.2 w h _
  clear B
  have hl := lv_entry ([.ref (ad 0), .int p1]) (n := 2) (Nat.le_of_ble_eq_true rfl)
  rw [lg_entry_eq]
  generalize (lg_sl ([.ref (ad 0), .int p1]) ++ List.replicate (2 - (lg_sl ([.ref (ad 0), .int p1])).length) Slot.unset).toArray = ls at hl ⊢
  have hl : lv_has ls 2 [(0, .ref (ad 0)), (1, .int p1)] := hl
  obtain ⟨hT1, hWT, ⟨hf, hf1⟩, hT, hW, hQ, hR5, hR6, hR7, hR8⟩ := hC
  have hW0 := hW
  have hQ0 := hQ
  obtain ⟨⟨w1, w2, w3, w4, w5, w6, w7⟩, wS, wL, wB, wK, wTk, wT0⟩ := hW
  obtain ⟨⟨q1, q2, q3, hTW, htz0⟩, qT, qP, qB, hJ, qE⟩ := hQ
  have hnM : ∀ s, cnt M s ≤ 2400 := fun s => by have := cnt_le M s; omega
  obtain ⟨⟨u1, u2, u3, u4, u5, u6, u7⟩, -⟩ := hWT
  refine lv_iload_n hx hb dX8_count_0 rfl (lv_at hl 1 rfl) ?_
  by_cases hsw : p1.toInt < 0 ∨ 14 < p1.toInt
  · skip
    refine lv_tableOut (tgt := 203) hx hb dX8_count_1 hsw (by decide) ?_
    refine lv_iconst (v := (-1)) hx hb dX8_count_203 (by decide) ?_
    refine W.iret (v := (-1)) hx hb hr (fun t ht hW => ⟨_, rfl, ?_, ht⟩) (fun _ h => nomatch h) dX8_count_204
    unfold qCount
    rw [if_neg (fun e => by rw [e] at hsw; exact absurd hsw (by decide)), if_neg (fun e => by rw [e] at hsw; exact absurd hsw (by decide)), if_neg (fun e => by rw [e] at hsw; exact absurd hsw (by decide)), if_neg (fun e => by rw [e] at hsw; exact absurd hsw (by decide)), if_neg (fun e => by rw [e] at hsw; exact absurd hsw (by decide)), if_neg (fun e => by rw [e] at hsw; exact absurd hsw (by decide)), if_neg (fun e => by rw [e] at hsw; exact absurd hsw (by decide)), if_neg (fun e => by rw [e] at hsw; exact absurd hsw (by decide)), if_neg (fun e => by rw [e] at hsw; exact absurd hsw (by decide)), if_neg (fun e => by rw [e] at hsw; exact absurd hsw (by decide)), if_neg (fun e => by rw [e] at hsw; exact absurd hsw (by decide)), if_neg (fun e => by rw [e] at hsw; exact absurd hsw (by decide)), if_neg (fun e => by rw [e] at hsw; exact absurd hsw (by decide))]
  · skip
    have hsw2 : p1 = 0 ∨ p1 = 1 ∨ p1 = 2 ∨ p1 = 3 ∨ p1 = 4 ∨ p1 = 5 ∨ p1 = 6 ∨ p1 = 7 ∨ p1 = 8 ∨ p1 = 9 ∨ p1 = 10 ∨ p1 = 11 ∨ p1 = 12 ∨ p1 = 13 ∨ p1 = 14 := by
      have h1 : p1.toInt = 0 ∨ p1.toInt = 1 ∨ p1.toInt = 2 ∨ p1.toInt = 3 ∨ p1.toInt = 4 ∨ p1.toInt = 5 ∨ p1.toInt = 6 ∨ p1.toInt = 7 ∨ p1.toInt = 8 ∨ p1.toInt = 9 ∨ p1.toInt = 10 ∨ p1.toInt = 11 ∨ p1.toInt = 12 ∨ p1.toInt = 13 ∨ p1.toInt = 14 := by omega
      rcases h1 with h1 | h1 | h1 | h1 | h1 | h1 | h1 | h1 | h1 | h1 | h1 | h1 | h1 | h1 | h1
      · exact Or.inl (Int32.toInt_inj.mp h1)
      · exact Or.inr (Or.inl (Int32.toInt_inj.mp h1))
      · exact Or.inr (Or.inr (Or.inl (Int32.toInt_inj.mp h1)))
      · exact Or.inr (Or.inr (Or.inr (Or.inl (Int32.toInt_inj.mp h1))))
      · exact Or.inr (Or.inr (Or.inr (Or.inr (Or.inl (Int32.toInt_inj.mp h1)))))
      · exact Or.inr (Or.inr (Or.inr (Or.inr (Or.inr (Or.inl (Int32.toInt_inj.mp h1))))))
      · exact Or.inr (Or.inr (Or.inr (Or.inr (Or.inr (Or.inr (Or.inl (Int32.toInt_inj.mp h1)))))))
      · exact Or.inr (Or.inr (Or.inr (Or.inr (Or.inr (Or.inr (Or.inr (Or.inl (Int32.toInt_inj.mp h1))))))))
      · exact Or.inr (Or.inr (Or.inr (Or.inr (Or.inr (Or.inr (Or.inr (Or.inr (Or.inl (Int32.toInt_inj.mp h1)))))))))
      · exact Or.inr (Or.inr (Or.inr (Or.inr (Or.inr (Or.inr (Or.inr (Or.inr (Or.inr (Or.inl (Int32.toInt_inj.mp h1))))))))))
      · exact Or.inr (Or.inr (Or.inr (Or.inr (Or.inr (Or.inr (Or.inr (Or.inr (Or.inr (Or.inr (Or.inl (Int32.toInt_inj.mp h1)))))))))))
      · exact Or.inr (Or.inr (Or.inr (Or.inr (Or.inr (Or.inr (Or.inr (Or.inr (Or.inr (Or.inr (Or.inr (Or.inl (Int32.toInt_inj.mp h1))))))))))))
      · exact Or.inr (Or.inr (Or.inr (Or.inr (Or.inr (Or.inr (Or.inr (Or.inr (Or.inr (Or.inr (Or.inr (Or.inr (Or.inl (Int32.toInt_inj.mp h1)))))))))))))
      · exact Or.inr (Or.inr (Or.inr (Or.inr (Or.inr (Or.inr (Or.inr (Or.inr (Or.inr (Or.inr (Or.inr (Or.inr (Or.inr (Or.inl (Int32.toInt_inj.mp h1))))))))))))))
      · exact Or.inr (Or.inr (Or.inr (Or.inr (Or.inr (Or.inr (Or.inr (Or.inr (Or.inr (Or.inr (Or.inr (Or.inr (Or.inr (Or.inr (Int32.toInt_inj.mp h1))))))))))))))
    rcases hsw2 with hsw3 | hsw3 | hsw3 | hsw3 | hsw3 | hsw3 | hsw3 | hsw3 | hsw3 | hsw3 | hsw3 | hsw3 | hsw3 | hsw3 | hsw3
    · skip
      subst hsw3
      refine lv_tableIn (off := 75) (tgt := 76) hx hb dX8_count_1 (by decide) (by decide) rfl (by decide) ?_
      refine lv_aload_n hx hb dX8_count_76 rfl (lv_at hl 0 rfl) ?_
      refine va_get (D := D) (T := TX8) (N := 5) hx hb hts jnX8 hown hK hP 0 (wd_0 y ad cap I J) rfl 1 (by decide) (hts _ fl_X8_19) (fun _ h9 => h9) rfl dX8_count_77 ?_
      refine va_getN (D := D) (T := TX4) (N := 9) hx hb hts jnX4 hown hK hP 17 (wd_17 y ad cap I J) rfl 5 (by decide) (hts _ fn_X8_115) (fun _ h9 => h9) rfl dX8_count_80 ?_
      refine lv_topi (fun v80 ev80 => ?_)
      obtain rfl : v80 = (nI R) := by
        rw [ev80]; exact hR5
      refine W.iret (v := (nI R)) hx hb hr (fun t ht hW => ⟨_, rfl, ?_, ht⟩) (fun _ h => nomatch h) dX8_count_83
      unfold qCount
      rw [if_pos rfl]
    · skip
      subst hsw3
      refine lv_tableIn (off := 83) (tgt := 84) hx hb dX8_count_1 (by decide) (by decide) rfl (by decide) ?_
      refine lv_aload_n hx hb dX8_count_84 rfl (lv_at hl 0 rfl) ?_
      refine va_get (D := D) (T := TX8) (N := 5) hx hb hts jnX8 hown hK hP 0 (wd_0 y ad cap I J) rfl 1 (by decide) (hts _ fl_X8_19) (fun _ h9 => h9) rfl dX8_count_85 ?_
      refine va_getN (D := D) (T := TX4) (N := 9) hx hb hts jnX4 hown hK hP 17 (wd_17 y ad cap I J) rfl 2 (by decide) (hts _ fn_X8_118) (fun _ h9 => h9) rfl dX8_count_88 ?_
      refine va_getN (D := D) (T := TX6) (N := 11) hx hb hts jnX6 hown hK hP 38 (wd_38 y ad cap I J) rfl 0 (by decide) (hts _ fn_X8_122) (fun _ h9 => h9) rfl dX8_count_91 ?_
      refine lv_topi (fun v91 ev91 => ?_)
      obtain rfl : v91 = (nI M.length) := by
        rw [ev91]; exact q1
      refine W.iret (v := (nI M.length)) hx hb hr (fun t ht hW => ⟨_, rfl, ?_, ht⟩) (fun _ h => nomatch h) dX8_count_94
      unfold qCount
      rw [if_neg (by decide), if_pos rfl]
    · skip
      subst hsw3
      refine lv_tableIn (off := 94) (tgt := 95) hx hb dX8_count_1 (by decide) (by decide) rfl (by decide) ?_
      refine lv_aload_n hx hb dX8_count_95 rfl (lv_at hl 0 rfl) ?_
      refine va_get (D := D) (T := TX8) (N := 5) hx hb hts jnX8 hown hK hP 0 (wd_0 y ad cap I J) rfl 1 (by decide) (hts _ fl_X8_19) (fun _ h9 => h9) rfl dX8_count_96 ?_
      refine va_getN (D := D) (T := TX4) (N := 9) hx hb hts jnX4 hown hK hP 17 (wd_17 y ad cap I J) rfl 6 (by decide) (hts _ fn_X8_127) (fun _ h9 => h9) rfl dX8_count_99 ?_
      refine lv_topi (fun v99 ev99 => ?_)
      obtain rfl : v99 = (nI (wc TL M 0 (TL 0 2))) := by
        rw [ev99]; exact hR6
      refine W.iret (v := (nI (wc TL M 0 (TL 0 2)))) hx hb hr (fun t ht hW => ⟨_, rfl, ?_, ht⟩) (fun _ h => nomatch h) dX8_count_102
      unfold qCount
      rw [if_neg (by decide), if_neg (by decide), if_pos rfl]
    · skip
      subst hsw3
      refine lv_tableIn (off := 102) (tgt := 103) hx hb dX8_count_1 (by decide) (by decide) rfl (by decide) ?_
      refine lv_aload_n hx hb dX8_count_103 rfl (lv_at hl 0 rfl) ?_
      refine va_get (D := D) (T := TX8) (N := 5) hx hb hts jnX8 hown hK hP 0 (wd_0 y ad cap I J) rfl 1 (by decide) (hts _ fl_X8_19) (fun _ h9 => h9) rfl dX8_count_104 ?_
      refine va_getN (D := D) (T := TX4) (N := 9) hx hb hts jnX4 hown hK hP 17 (wd_17 y ad cap I J) rfl 7 (by decide) (hts _ fn_X8_130) (fun _ h9 => h9) rfl dX8_count_107 ?_
      refine lv_topi (fun v107 ev107 => ?_)
      obtain rfl : v107 = (nI (wc TL M 1 (TL 0 2))) := by
        rw [ev107]; exact hR7
      refine W.iret (v := (nI (wc TL M 1 (TL 0 2)))) hx hb hr (fun t ht hW => ⟨_, rfl, ?_, ht⟩) (fun _ h => nomatch h) dX8_count_110
      unfold qCount
      rw [if_neg (by decide), if_neg (by decide), if_neg (by decide), if_pos rfl]
    · skip
      subst hsw3
      refine lv_tableIn (off := 110) (tgt := 111) hx hb dX8_count_1 (by decide) (by decide) rfl (by decide) ?_
      refine lv_aload_n hx hb dX8_count_111 rfl (lv_at hl 0 rfl) ?_
      refine va_get (D := D) (T := TX8) (N := 5) hx hb hts jnX8 hown hK hP 0 (wd_0 y ad cap I J) rfl 1 (by decide) (hts _ fl_X8_19) (fun _ h9 => h9) rfl dX8_count_112 ?_
      refine va_getN (D := D) (T := TX4) (N := 9) hx hb hts jnX4 hown hK hP 17 (wd_17 y ad cap I J) rfl 8 (by decide) (hts _ fn_X8_112) (fun _ h9 => h9) rfl dX8_count_115 ?_
      refine lv_topi (fun v115 ev115 => ?_)
      obtain rfl : v115 = (nI (wc TL M 2 (TL 0 2))) := by
        rw [ev115]; exact hR8
      refine W.iret (v := (nI (wc TL M 2 (TL 0 2)))) hx hb hr (fun t ht hW => ⟨_, rfl, ?_, ht⟩) (fun _ h => nomatch h) dX8_count_118
      unfold qCount
      rw [if_neg (by decide), if_neg (by decide), if_neg (by decide), if_neg (by decide), if_pos rfl]
    · skip
      subst hsw3
      refine lv_tableIn (off := 118) (tgt := 119) hx hb dX8_count_1 (by decide) (by decide) rfl (by decide) ?_
      refine lv_aload_n hx hb dX8_count_119 rfl (lv_at hl 0 rfl) ?_
      refine va_get (D := D) (T := TX8) (N := 5) hx hb hts jnX8 hown hK hP 0 (wd_0 y ad cap I J) rfl 1 (by decide) (hts _ fl_X8_19) (fun _ h9 => h9) rfl dX8_count_120 ?_
      refine va_getN (D := D) (T := TX4) (N := 9) hx hb hts jnX4 hown hK hP 17 (wd_17 y ad cap I J) rfl 2 (by decide) (hts _ fn_X8_118) (fun _ h9 => h9) rfl dX8_count_123 ?_
      refine rk_i (run_vn (As := []) (rest := []) (b := (ad 38)) hx hb hml hown hO.2 (c_X6_unused l D y ad cap I J hT hW0 hQ0) k_X6_unused mn_X8_133 ⟨rfl, rfl⟩ ⟨Nat.le_of_ble_eq_true rfl, Nat.le_of_ble_eq_true rfl⟩ (pre_VR hO hP (wd_38 y ad cap I J) rfl) rfl hl.1 rfl (Nat.le_of_ble_eq_true rfl) dX8_count_126 ⟨(Nat.zero_le _), (Nat.zero_le _)⟩) (fun r126 er126 => ?_)
      try dsimp only at er126
      obtain rfl : r126 = (nI (nuls (fun t => us TL M t (TL 0 2)) M.length)) := by
        exact er126
      refine W.iret (v := (nI (nuls (fun t => us TL M t (TL 0 2)) M.length))) hx hb hr (fun t ht hW => ⟨_, rfl, ?_, ht⟩) (fun _ h => nomatch h) dX8_count_129
      unfold qCount
      rw [if_neg (by decide), if_neg (by decide), if_neg (by decide), if_neg (by decide), if_neg (by decide), if_pos rfl]
    · skip
      subst hsw3
      refine lv_tableIn (off := 129) (tgt := 130) hx hb dX8_count_1 (by decide) (by decide) rfl (by decide) ?_
      refine lv_aload_n hx hb dX8_count_130 rfl (lv_at hl 0 rfl) ?_
      refine va_get (D := D) (T := TX8) (N := 5) hx hb hts jnX8 hown hK hP 0 (wd_0 y ad cap I J) rfl 1 (by decide) (hts _ fl_X8_19) (fun _ h9 => h9) rfl dX8_count_131 ?_
      refine rk_i (run_vn (As := []) (rest := []) (b := (ad 17)) hx hb hml hown hO.2 (c_X4_bytesBetween l D y ad cap I J hT hW0 hQ0) k_X4_bytesBetween mn_X8_137 ⟨rfl, rfl⟩ ⟨Nat.le_of_ble_eq_true rfl, Nat.le_of_ble_eq_true rfl⟩ (pre_VR hO hP (wd_17 y ad cap I J) rfl) rfl hl.1 rfl (Nat.le_of_ble_eq_true rfl) dX8_count_134 ⟨(Nat.zero_le _), (Nat.zero_le _)⟩) (fun r134 er134 => ?_)
      try dsimp only at er134
      obtain rfl : r134 = (iN ((sAt TL (cnt M) (TL 0 0) : Int) - TL 0 4 - M.length * TL 0 5 - ((sumS TL (TL 0 0) : Nat) : Int))) := by
        exact er134
      refine W.iret (v := (iN ((sAt TL (cnt M) (TL 0 0) : Int) - TL 0 4 - M.length * TL 0 5 - ((sumS TL (TL 0 0) : Nat) : Int)))) hx hb hr (fun t ht hW => ⟨_, rfl, ?_, ht⟩) (fun _ h => nomatch h) dX8_count_137
      unfold qCount
      rw [if_neg (by decide), if_neg (by decide), if_neg (by decide), if_neg (by decide), if_neg (by decide), if_neg (by decide), if_pos rfl]
    · skip
      subst hsw3
      refine lv_tableIn (off := 137) (tgt := 138) hx hb dX8_count_1 (by decide) (by decide) rfl (by decide) ?_
      refine lv_aload_n hx hb dX8_count_138 rfl (lv_at hl 0 rfl) ?_
      refine va_get (D := D) (T := TX8) (N := 5) hx hb hts jnX8 hown hK hP 0 (wd_0 y ad cap I J) rfl 1 (by decide) (hts _ fl_X8_19) (fun _ h9 => h9) rfl dX8_count_139 ?_
      refine rk_i (run_vn (As := []) (rest := []) (b := (ad 17)) hx hb hml hown hO.2 (c_X4_bytesInAll l D y ad cap I J hT hW0 hQ0) k_X4_bytesInAll mn_X8_140 ⟨rfl, rfl⟩ ⟨Nat.le_of_ble_eq_true rfl, Nat.le_of_ble_eq_true rfl⟩ (pre_VR hO hP (wd_17 y ad cap I J) rfl) rfl hl.1 rfl (Nat.le_of_ble_eq_true rfl) dX8_count_142 ⟨(Nat.zero_le _), (Nat.zero_le _)⟩) (fun r142 er142 => ?_)
      try dsimp only at er142
      obtain rfl : r142 = (nI (sAt TL (cnt M) (TL 0 0) - TL 0 4)) := by
        exact er142
      refine W.iret (v := (nI (sAt TL (cnt M) (TL 0 0) - TL 0 4))) hx hb hr (fun t ht hW => ⟨_, rfl, ?_, ht⟩) (fun _ h => nomatch h) dX8_count_145
      unfold qCount
      rw [if_neg (by decide), if_neg (by decide), if_neg (by decide), if_neg (by decide), if_neg (by decide), if_neg (by decide), if_neg (by decide), if_pos rfl]
    · skip
      subst hsw3
      refine lv_tableIn (off := 202) (tgt := 203) hx hb dX8_count_1 (by decide) (by decide) rfl (by decide) ?_
      refine lv_iconst (v := (-1)) hx hb dX8_count_203 (by decide) ?_
      refine W.iret (v := (-1)) hx hb hr (fun t ht hW => ⟨_, rfl, ?_, ht⟩) (fun _ h => nomatch h) dX8_count_204
      unfold qCount
      rw [if_neg (by decide), if_neg (by decide), if_neg (by decide), if_neg (by decide), if_neg (by decide), if_neg (by decide), if_neg (by decide), if_neg (by decide), if_neg (by decide), if_neg (by decide), if_neg (by decide), if_neg (by decide), if_neg (by decide)]
    · skip
      subst hsw3
      refine lv_tableIn (off := 202) (tgt := 203) hx hb dX8_count_1 (by decide) (by decide) rfl (by decide) ?_
      refine lv_iconst (v := (-1)) hx hb dX8_count_203 (by decide) ?_
      refine W.iret (v := (-1)) hx hb hr (fun t ht hW => ⟨_, rfl, ?_, ht⟩) (fun _ h => nomatch h) dX8_count_204
      unfold qCount
      rw [if_neg (by decide), if_neg (by decide), if_neg (by decide), if_neg (by decide), if_neg (by decide), if_neg (by decide), if_neg (by decide), if_neg (by decide), if_neg (by decide), if_neg (by decide), if_neg (by decide), if_neg (by decide), if_neg (by decide)]
    · skip
      subst hsw3
      refine lv_tableIn (off := 145) (tgt := 146) hx hb dX8_count_1 (by decide) (by decide) rfl (by decide) ?_
      refine lv_aload_n hx hb dX8_count_146 rfl (lv_at hl 0 rfl) ?_
      refine va_get (D := D) (T := TX8) (N := 5) hx hb hts jnX8 hown hK hP 0 (wd_0 y ad cap I J) rfl 0 (by decide) (hts _ fl_X8_12) (fun _ h9 => h9) rfl dX8_count_147 ?_
      refine va_getN (D := D) (T := TX7) (N := 8) hx hb hts jnX7 hown hK hP 1 (wd_1 y ad cap I J) rfl 0 (by decide) (hts _ fn_X8_38) (fun _ h9 => h9) rfl dX8_count_150 ?_
      refine va_getN (D := D) (T := TX5) (N := 5) hx hb hts jnX5 hown hK hP 2 (wd_2 y ad cap I J) rfl 0 (by decide) (hts _ fn_X8_143) (fun _ h9 => h9) rfl dX8_count_153 ?_
      refine lv_topi (fun v153 ev153 => ?_)
      obtain rfl : v153 = (nI (T 0 0)) := by
        rw [ev153]; exact hT1.1.1
      refine W.iret (v := (nI (T 0 0))) hx hb hr (fun t ht hW => ⟨_, rfl, ?_, ht⟩) (fun _ h => nomatch h) dX8_count_156
      unfold qCount
      rw [if_neg (by decide), if_neg (by decide), if_neg (by decide), if_neg (by decide), if_neg (by decide), if_neg (by decide), if_neg (by decide), if_neg (by decide), if_pos rfl]
    · skip
      subst hsw3
      refine lv_tableIn (off := 156) (tgt := 157) hx hb dX8_count_1 (by decide) (by decide) rfl (by decide) ?_
      refine lv_aload_n hx hb dX8_count_157 rfl (lv_at hl 0 rfl) ?_
      refine va_get (D := D) (T := TX8) (N := 5) hx hb hts jnX8 hown hK hP 0 (wd_0 y ad cap I J) rfl 0 (by decide) (hts _ fl_X8_12) (fun _ h9 => h9) rfl dX8_count_158 ?_
      refine va_getN (D := D) (T := TX7) (N := 8) hx hb hts jnX7 hown hK hP 1 (wd_1 y ad cap I J) rfl 1 (by decide) (hts _ fn_X8_59) (fun _ h9 => h9) rfl dX8_count_161 ?_
      refine va_getN (D := D) (T := TX3) (N := 3) hx hb hts jnX3 hown hK hP 6 (wd_6 y ad cap I J) rfl 0 (by decide) (hts _ fn_X8_146) (fun _ h9 => h9) rfl dX8_count_164 ?_
      refine lv_topi (fun v164 ev164 => ?_)
      obtain rfl : v164 = (nI (T 0 1)) := by
        rw [ev164]; exact hT1.1.2.1
      refine W.iret (v := (nI (T 0 1))) hx hb hr (fun t ht hW => ⟨_, rfl, ?_, ht⟩) (fun _ h => nomatch h) dX8_count_167
      unfold qCount
      rw [if_neg (by decide), if_neg (by decide), if_neg (by decide), if_neg (by decide), if_neg (by decide), if_neg (by decide), if_neg (by decide), if_neg (by decide), if_neg (by decide), if_pos rfl]
    · skip
      subst hsw3
      refine lv_tableIn (off := 167) (tgt := 168) hx hb dX8_count_1 (by decide) (by decide) rfl (by decide) ?_
      refine lv_aload_n hx hb dX8_count_168 rfl (lv_at hl 0 rfl) ?_
      refine va_get (D := D) (T := TX8) (N := 5) hx hb hts jnX8 hown hK hP 0 (wd_0 y ad cap I J) rfl 0 (by decide) (hts _ fl_X8_12) (fun _ h9 => h9) rfl dX8_count_169 ?_
      refine va_getN (D := D) (T := TX7) (N := 8) hx hb hts jnX7 hown hK hP 1 (wd_1 y ad cap I J) rfl 3 (by decide) (hts _ fn_X8_84) (fun _ h9 => h9) rfl dX8_count_172 ?_
      refine va_getN (D := D) (T := TX1) (N := 5) hx hb hts jnX1 hown hK hP 12 (wd_12 y ad cap I J) rfl 0 (by decide) (hts _ fn_X8_147) (fun _ h9 => h9) rfl dX8_count_175 ?_
      refine lv_topi (fun v175 ev175 => ?_)
      obtain rfl : v175 = (nI (T 0 2)) := by
        rw [ev175]; exact hT1.1.2.2.1
      refine W.iret (v := (nI (T 0 2))) hx hb hr (fun t ht hW => ⟨_, rfl, ?_, ht⟩) (fun _ h => nomatch h) dX8_count_178
      unfold qCount
      rw [if_neg (by decide), if_neg (by decide), if_neg (by decide), if_neg (by decide), if_neg (by decide), if_neg (by decide), if_neg (by decide), if_neg (by decide), if_neg (by decide), if_neg (by decide), if_pos rfl]
    · skip
      subst hsw3
      refine lv_tableIn (off := 178) (tgt := 179) hx hb dX8_count_1 (by decide) (by decide) rfl (by decide) ?_
      refine lv_aload_n hx hb dX8_count_179 rfl (lv_at hl 0 rfl) ?_
      refine va_get (D := D) (T := TX8) (N := 5) hx hb hts jnX8 hown hK hP 0 (wd_0 y ad cap I J) rfl 0 (by decide) (hts _ fl_X8_12) (fun _ h9 => h9) rfl dX8_count_180 ?_
      refine va_getN (D := D) (T := TX7) (N := 8) hx hb hts jnX7 hown hK hP 1 (wd_1 y ad cap I J) rfl 0 (by decide) (hts _ fn_X8_38) (fun _ h9 => h9) rfl dX8_count_183 ?_
      refine va_getN (D := D) (T := TX5) (N := 5) hx hb hts jnX5 hown hK hP 2 (wd_2 y ad cap I J) rfl 1 (by decide) (hts _ fn_X8_148) (fun _ h9 => h9) rfl dX8_count_186 ?_
      refine lv_topi (fun v186 ev186 => ?_)
      obtain rfl : v186 = (nI (T 0 3)) := by
        rw [ev186]; exact hT1.1.2.2.2.1
      refine W.iret (v := (nI (T 0 3))) hx hb hr (fun t ht hW => ⟨_, rfl, ?_, ht⟩) (fun _ h => nomatch h) dX8_count_189
      unfold qCount
      rw [if_neg (by decide), if_neg (by decide), if_neg (by decide), if_neg (by decide), if_neg (by decide), if_neg (by decide), if_neg (by decide), if_neg (by decide), if_neg (by decide), if_neg (by decide), if_neg (by decide), if_pos rfl]
    · skip
      subst hsw3
      refine lv_tableIn (off := 189) (tgt := 190) hx hb dX8_count_1 (by decide) (by decide) rfl (by decide) ?_
      refine lv_aload_n hx hb dX8_count_190 rfl (lv_at hl 0 rfl) ?_
      refine va_get (D := D) (T := TX8) (N := 5) hx hb hts jnX8 hown hK hP 0 (wd_0 y ad cap I J) rfl 4 (by decide) (hts _ fl_X8_34) (fun _ h9 => h9) rfl dX8_count_191 ?_
      refine lv_topi (fun v191 ev191 => ?_)
      obtain rfl : v191 = (nI fl) := by
        rw [ev191]; exact hf
      refine lv_if_eq (tgt := 201) hx hb dX8_count_194 (by decide) (fun c194 => ?_) (fun c194 => ?_)
      · skip
        refine lv_iconst (v := 0) hx hb dX8_count_201 (by decide) ?_
        refine W.iret (v := 0) hx hb hr (fun t ht hW => ⟨_, rfl, ?_, ht⟩) (fun _ h => nomatch h) dX8_count_202
        unfold qCount
        rw [if_neg (by decide), if_neg (by decide), if_neg (by decide), if_neg (by decide), if_neg (by decide), if_neg (by decide), if_neg (by decide), if_neg (by decide), if_neg (by decide), if_neg (by decide), if_neg (by decide), if_neg (by decide), if_pos rfl]
        first | rw [show fl = 0 from (nI_z (by omega)).mp c194]; rfl | (rw [show fl = 1 from by have := mt (nI_z (by omega)).mpr c194; omega]; rfl)
      · skip
        refine lv_iconst (v := 1) hx hb dX8_count_197 (by decide) ?_
        refine lv_goto (tgt := 202) hx hb dX8_count_198 (by decide) ?_
        refine W.iret (v := 1) hx hb hr (fun t ht hW => ⟨_, rfl, ?_, ht⟩) (fun _ h => nomatch h) dX8_count_202
        unfold qCount
        rw [if_neg (by decide), if_neg (by decide), if_neg (by decide), if_neg (by decide), if_neg (by decide), if_neg (by decide), if_neg (by decide), if_neg (by decide), if_neg (by decide), if_neg (by decide), if_neg (by decide), if_neg (by decide), if_pos rfl]
        first | rw [show fl = 0 from (nI_z (by omega)).mp c194]; rfl | (rw [show fl = 1 from by have := mt (nI_z (by omega)).mpr c194; omega]; rfl)
set_option maxHeartbeats 4000000 in
set_option maxRecDepth 100000 in
theorem c_X8_address (l : Launch) (D : va_G) (y : Nat → ClassId) (ad : Nat → Nat) (cap : Nat → Nat) (I : Nat → Nat → Int32) (J : Nat → Nat → Int64) {T : Nat → Nat → Nat} {fl : Nat} {TL : Nat → Nat → Nat} {M : List Th} {R : Nat} (hC : CI I J (cap 0) T fl TL M R) (p1 p2 : Int32) : Met l yX8_address [.code yX8_address cX8_address 3 (some .long)] ({ frames := 2, cells := 0, slots := 0, locals := 42 }) (va_Pc [.ref (ad 0), .int p1, .int p2] (PR D y (Wd y ad cap I J))) (vp_Sl (fun r => r = qAddr TL M p1 p2)) 0 0 (fun _ => False) := by
  refine Met.ofW (cc := cX8_address) (maxL := 3) (ret := (some .long)) (by decide) rfl ?_
  intro p e s m args below meth c s₁ B hml hv
  obtain ⟨rfl, hP, hO⟩ := hv
  have hx := B.exec
  have hb := B.bytes
  have hr := B.returns
  have hown : s.vm.findClass RX8 = some m.cls := findClass_of_methodNamed B.named
  have hlocks := B.notSynchronized
  have hK := hO.1
  have hts : ∀ w ∈ lw_E, w.before ([.ref (ad 0), .int p1, .int p2] : List Value).toArray s = true := fun w h => hO.2 w h _
  clear B
  have hl := lv_entry ([.ref (ad 0), .int p1, .int p2]) (n := 3) (Nat.le_of_ble_eq_true rfl)
  rw [lg_entry_eq]
  generalize (lg_sl ([.ref (ad 0), .int p1, .int p2]) ++ List.replicate (3 - (lg_sl ([.ref (ad 0), .int p1, .int p2])).length) Slot.unset).toArray = ls at hl ⊢
  have hl : lv_has ls 3 [(0, .ref (ad 0)), (1, .int p1), (2, .int p2)] := hl
  obtain ⟨hT1, hWT, ⟨hf, hf1⟩, hT, hW, hQ, hR5, hR6, hR7, hR8⟩ := hC
  have hW0 := hW
  have hQ0 := hQ
  obtain ⟨⟨w1, w2, w3, w4, w5, w6, w7⟩, wS, wL, wB, wK, wTk, wT0⟩ := hW
  obtain ⟨⟨q1, q2, q3, hTW, htz0⟩, qT, qP, qB, hJ, qE⟩ := hQ
  have hnM : ∀ s, cnt M s ≤ 2400 := fun s => by have := cnt_le M s; omega
  obtain ⟨⟨u1, u2, u3, u4, u5, u6, u7⟩, -⟩ := hWT
  refine lv_iload_n hx hb dX8_address_0 rfl (lv_at hl 1 rfl) ?_
  by_cases hsw : p1.toInt < 0 ∨ 4 < p1.toInt
  · skip
    refine lv_tableOut (tgt := 205) hx hb dX8_address_1 hsw (by decide) ?_
    refine lv_ldc2 (v := (-9223372036854775808)) hx hb hown (hts _ kc_X8_159) dX8_address_205 ?_
    refine W.lret (v := (-9223372036854775808)) hx hb hr (fun t ht hW => ⟨_, rfl, ?_, ht⟩) (fun _ h => nomatch h) dX8_address_208
    unfold qAddr
    rw [if_neg (fun e => by rw [e] at hsw; exact absurd hsw (by decide)), if_neg (fun e => by rw [e] at hsw; exact absurd hsw (by decide)), if_neg (fun e => by rw [e] at hsw; exact absurd hsw (by decide)), if_neg (fun e => by rw [e] at hsw; exact absurd hsw (by decide)), if_neg (fun e => by rw [e] at hsw; exact absurd hsw (by decide))]
  · skip
    have hsw2 : p1 = 0 ∨ p1 = 1 ∨ p1 = 2 ∨ p1 = 3 ∨ p1 = 4 := by
      have h1 : p1.toInt = 0 ∨ p1.toInt = 1 ∨ p1.toInt = 2 ∨ p1.toInt = 3 ∨ p1.toInt = 4 := by omega
      rcases h1 with h1 | h1 | h1 | h1 | h1
      · exact Or.inl (Int32.toInt_inj.mp h1)
      · exact Or.inr (Or.inl (Int32.toInt_inj.mp h1))
      · exact Or.inr (Or.inr (Or.inl (Int32.toInt_inj.mp h1)))
      · exact Or.inr (Or.inr (Or.inr (Or.inl (Int32.toInt_inj.mp h1))))
      · exact Or.inr (Or.inr (Or.inr (Or.inr (Int32.toInt_inj.mp h1))))
    rcases hsw2 with hsw3 | hsw3 | hsw3 | hsw3 | hsw3
    · skip
      subst hsw3
      refine lv_tableIn (off := 35) (tgt := 36) hx hb dX8_address_1 (by decide) (by decide) rfl (by decide) ?_
      refine lv_aload_n hx hb dX8_address_36 rfl (lv_at hl 0 rfl) ?_
      refine va_get (D := D) (T := TX8) (N := 5) hx hb hts jnX8 hown hK hP 0 (wd_0 y ad cap I J) rfl 1 (by decide) (hts _ fl_X8_19) (fun _ h9 => h9) rfl dX8_address_37 ?_
      refine va_getN (D := D) (T := TX4) (N := 9) hx hb hts jnX4 hown hK hP 17 (wd_17 y ad cap I J) rfl 0 (by decide) (hts _ fn_X8_151) (fun _ h9 => h9) rfl dX8_address_40 ?_
      refine va_getN (D := D) (T := TX7) (N := 8) hx hb hts jnX7 hown hK hP 18 (wd_18 y ad cap I J) rfl 0 (by decide) (hts _ fn_X8_38) (fun _ h9 => h9) rfl dX8_address_43 ?_
      refine lv_iload_n hx hb dX8_address_46 rfl (lv_at hl 2 rfl) ?_
      refine rk_i (run_vn (As := [.int p2]) (rest := []) (b := (ad 19)) hx hb hml hown hO.2 (c_X5_has l D y (wd_19 y ad cap I J) p2) k_X5_has mn_X8_52 ⟨rfl, rfl⟩ ⟨Nat.le_of_ble_eq_true rfl, Nat.le_of_ble_eq_true rfl⟩ (pre_VR hO hP (wd_19 y ad cap I J) rfl) rfl hl.1 rfl (Nat.le_of_ble_eq_true rfl) dX8_address_47 ⟨(Nat.zero_le _), (Nat.zero_le _)⟩) (fun r47 er47 => ?_)
      try dsimp only at er47
      rw [hT.1.1] at er47
      refine lv_if_eq (tgt := 68) hx hb dX8_address_50 (by decide) (fun c50 => ?_) (fun c50 => ?_)
      · skip
        have c50 := if01_z er47 c50
        refine lv_ldc2 (v := (-9223372036854775808)) hx hb hown (hts _ kc_X8_159) dX8_address_68 ?_
        refine W.lret (v := (-9223372036854775808)) hx hb hr (fun t ht hW => ⟨_, rfl, ?_, ht⟩) (fun _ h => nomatch h) dX8_address_71
        unfold qAddr
        rw [if_pos rfl]
        first | (rw [ix_no c50]; done) | (rw [ix_in (n := TL 0 0) (by omega) hj0]; done)
      · skip
        have c50 := if01_n er47 c50
        obtain ⟨j0, j1, hj0⟩ := ix_ok (n := TL 0 0) (by omega) c50
        subst j1
        refine lv_aload_n hx hb dX8_address_53 rfl (lv_at hl 0 rfl) ?_
        refine va_get (D := D) (T := TX8) (N := 5) hx hb hts jnX8 hown hK hP 0 (wd_0 y ad cap I J) rfl 1 (by decide) (hts _ fl_X8_19) (fun _ h9 => h9) rfl dX8_address_54 ?_
        refine va_getN (D := D) (T := TX4) (N := 9) hx hb hts jnX4 hown hK hP 17 (wd_17 y ad cap I J) rfl 1 (by decide) (hts _ fn_X8_152) (fun _ h9 => h9) rfl dX8_address_57 ?_
        refine va_getN (D := D) (T := TX0) (N := 4) hx hb hts jnX0 hown hK hP 34 (wd_34 y ad cap I J) rfl 0 (by decide) (hts _ fn_X8_155) (fun _ h9 => h9) rfl dX8_address_60 ?_
        refine lv_iload_n hx hb dX8_address_63 rfl (lv_at hl 2 rfl) ?_
        refine va_lald (D := D) hx hb hK hP 35 1 (wd_35 y ad cap I J) rfl (vp_in_nI (by omega) (by omega)) dX8_address_64 ?_
        rw [nI_clamp (n := j0) (by omega)]
        refine lv_topl (fun v64 ev64 => ?_)
        obtain rfl : v64 = (lN (sA TL (cnt M) j0)) := by
          rw [ev64]; exact (hJ _ (by omega)).1
        refine lv_goto (tgt := 71) hx hb dX8_address_65 (by decide) ?_
        refine W.lret (v := (lN (sA TL (cnt M) j0))) hx hb hr (fun t ht hW => ⟨_, rfl, ?_, ht⟩) (fun _ h => nomatch h) dX8_address_71
        unfold qAddr
        rw [if_pos rfl]
        first | (rw [ix_no c50]; done) | (rw [ix_in (n := TL 0 0) (by omega) hj0]; done)
    · skip
      subst hsw3
      refine lv_tableIn (off := 71) (tgt := 72) hx hb dX8_address_1 (by decide) (by decide) rfl (by decide) ?_
      refine lv_aload_n hx hb dX8_address_72 rfl (lv_at hl 0 rfl) ?_
      refine va_get (D := D) (T := TX8) (N := 5) hx hb hts jnX8 hown hK hP 0 (wd_0 y ad cap I J) rfl 1 (by decide) (hts _ fl_X8_19) (fun _ h9 => h9) rfl dX8_address_73 ?_
      refine va_getN (D := D) (T := TX4) (N := 9) hx hb hts jnX4 hown hK hP 17 (wd_17 y ad cap I J) rfl 0 (by decide) (hts _ fn_X8_151) (fun _ h9 => h9) rfl dX8_address_76 ?_
      refine va_getN (D := D) (T := TX7) (N := 8) hx hb hts jnX7 hown hK hP 18 (wd_18 y ad cap I J) rfl 1 (by decide) (hts _ fn_X8_59) (fun _ h9 => h9) rfl dX8_address_79 ?_
      refine lv_iload_n hx hb dX8_address_82 rfl (lv_at hl 2 rfl) ?_
      refine rk_i (run_vn (As := [.int p2]) (rest := []) (b := (ad 23)) hx hb hml hown hO.2 (c_X3_has l D y (wd_23 y ad cap I J) p2) k_X3_has mn_X8_83 ⟨rfl, rfl⟩ ⟨Nat.le_of_ble_eq_true rfl, Nat.le_of_ble_eq_true rfl⟩ (pre_VR hO hP (wd_23 y ad cap I J) rfl) rfl hl.1 rfl (Nat.le_of_ble_eq_true rfl) dX8_address_83 ⟨(Nat.zero_le _), (Nat.zero_le _)⟩) (fun r83 er83 => ?_)
      try dsimp only at er83
      rw [hT.1.2.1] at er83
      refine lv_if_eq (tgt := 100) hx hb dX8_address_86 (by decide) (fun c86 => ?_) (fun c86 => ?_)
      · skip
        have c86 := if01_z er83 c86
        refine lv_ldc2 (v := (-9223372036854775808)) hx hb hown (hts _ kc_X8_159) dX8_address_100 ?_
        refine W.lret (v := (-9223372036854775808)) hx hb hr (fun t ht hW => ⟨_, rfl, ?_, ht⟩) (fun _ h => nomatch h) dX8_address_103
        unfold qAddr
        rw [if_neg (by decide), if_pos rfl]
        first | (rw [ix_no c86]; done) | (rw [ix_in (n := TL 0 1) (by omega) hj0]; exact er94; done)
      · skip
        have c86 := if01_n er83 c86
        obtain ⟨j0, j1, hj0⟩ := ix_ok (n := TL 0 1) (by omega) c86
        subst j1
        refine lv_aload_n hx hb dX8_address_89 rfl (lv_at hl 0 rfl) ?_
        refine va_get (D := D) (T := TX8) (N := 5) hx hb hts jnX8 hown hK hP 0 (wd_0 y ad cap I J) rfl 1 (by decide) (hts _ fl_X8_19) (fun _ h9 => h9) rfl dX8_address_90 ?_
        refine lv_iload_n hx hb dX8_address_93 rfl (lv_at hl 2 rfl) ?_
        refine rk_l (run_vn (As := [.int (nI j0)]) (rest := []) (b := (ad 17)) hx hb hml hown hO.2 (c_X4_labelAddress l D y ad cap I J hT hW0 hnM hJ (l0 := j0) hj0) k_X4_labelAddress mn_X8_161 ⟨rfl, rfl⟩ ⟨Nat.le_of_ble_eq_true rfl, Nat.le_of_ble_eq_true rfl⟩ (pre_VR hO hP (wd_17 y ad cap I J) rfl) rfl hl.1 rfl (Nat.le_of_ble_eq_true rfl) dX8_address_94 ⟨(Nat.zero_le _), (Nat.zero_le _)⟩) (fun r94 er94 => ?_)
        try dsimp only at er94
        refine lv_goto (tgt := 103) hx hb dX8_address_97 (by decide) ?_
        refine W.lret (v := r94) hx hb hr (fun t ht hW => ⟨_, rfl, ?_, ht⟩) (fun _ h => nomatch h) dX8_address_103
        unfold qAddr
        rw [if_neg (by decide), if_pos rfl]
        first | (rw [ix_no c86]; done) | (rw [ix_in (n := TL 0 1) (by omega) hj0]; exact er94; done)
    · skip
      subst hsw3
      refine lv_tableIn (off := 103) (tgt := 104) hx hb dX8_address_1 (by decide) (by decide) rfl (by decide) ?_
      refine lv_aload_n hx hb dX8_address_104 rfl (lv_at hl 0 rfl) ?_
      refine va_get (D := D) (T := TX8) (N := 5) hx hb hts jnX8 hown hK hP 0 (wd_0 y ad cap I J) rfl 1 (by decide) (hts _ fl_X8_19) (fun _ h9 => h9) rfl dX8_address_105 ?_
      refine va_getN (D := D) (T := TX4) (N := 9) hx hb hts jnX4 hown hK hP 17 (wd_17 y ad cap I J) rfl 0 (by decide) (hts _ fn_X8_151) (fun _ h9 => h9) rfl dX8_address_108 ?_
      refine va_getN (D := D) (T := TX7) (N := 8) hx hb hts jnX7 hown hK hP 18 (wd_18 y ad cap I J) rfl 3 (by decide) (hts _ fn_X8_84) (fun _ h9 => h9) rfl dX8_address_111 ?_
      refine lv_iload_n hx hb dX8_address_114 rfl (lv_at hl 2 rfl) ?_
      refine rk_i (run_vn (As := [.int p2]) (rest := []) (b := (ad 29)) hx hb hml hown hO.2 (c_X1_has l D y (wd_29 y ad cap I J) p2) k_X1_has mn_X8_104 ⟨rfl, rfl⟩ ⟨Nat.le_of_ble_eq_true rfl, Nat.le_of_ble_eq_true rfl⟩ (pre_VR hO hP (wd_29 y ad cap I J) rfl) rfl hl.1 rfl (Nat.le_of_ble_eq_true rfl) dX8_address_115 ⟨(Nat.zero_le _), (Nat.zero_le _)⟩) (fun r115 er115 => ?_)
      try dsimp only at er115
      rw [hT.1.2.2.1] at er115
      refine lv_if_eq (tgt := 132) hx hb dX8_address_118 (by decide) (fun c118 => ?_) (fun c118 => ?_)
      · skip
        have c118 := if01_z er115 c118
        refine lv_ldc2 (v := (-9223372036854775808)) hx hb hown (hts _ kc_X8_159) dX8_address_132 ?_
        refine W.lret (v := (-9223372036854775808)) hx hb hr (fun t ht hW => ⟨_, rfl, ?_, ht⟩) (fun _ h => nomatch h) dX8_address_135
        unfold qAddr
        rw [if_neg (by decide), if_neg (by decide), if_pos rfl]
        first | (rw [ix_no c118]; done) | (rw [ix_in (n := TL 0 2) (by omega) hj0]; exact er126; done)
      · skip
        have c118 := if01_n er115 c118
        obtain ⟨j0, j1, hj0⟩ := ix_ok (n := TL 0 2) (by omega) c118
        subst j1
        refine lv_aload_n hx hb dX8_address_121 rfl (lv_at hl 0 rfl) ?_
        refine va_get (D := D) (T := TX8) (N := 5) hx hb hts jnX8 hown hK hP 0 (wd_0 y ad cap I J) rfl 1 (by decide) (hts _ fl_X8_19) (fun _ h9 => h9) rfl dX8_address_122 ?_
        refine lv_iload_n hx hb dX8_address_125 rfl (lv_at hl 2 rfl) ?_
        refine rk_l (run_vn (As := [.int (nI j0)]) (rest := []) (b := (ad 17)) hx hb hml hown hO.2 (c_X4_branchAddress l D y ad cap I J hT hW0 hnM hJ (b0 := j0) hj0) k_X4_branchAddress mn_X8_165 ⟨rfl, rfl⟩ ⟨Nat.le_of_ble_eq_true rfl, Nat.le_of_ble_eq_true rfl⟩ (pre_VR hO hP (wd_17 y ad cap I J) rfl) rfl hl.1 rfl (Nat.le_of_ble_eq_true rfl) dX8_address_126 ⟨(Nat.zero_le _), (Nat.zero_le _)⟩) (fun r126 er126 => ?_)
        try dsimp only at er126
        refine lv_goto (tgt := 135) hx hb dX8_address_129 (by decide) ?_
        refine W.lret (v := r126) hx hb hr (fun t ht hW => ⟨_, rfl, ?_, ht⟩) (fun _ h => nomatch h) dX8_address_135
        unfold qAddr
        rw [if_neg (by decide), if_neg (by decide), if_pos rfl]
        first | (rw [ix_no c118]; done) | (rw [ix_in (n := TL 0 2) (by omega) hj0]; exact er126; done)
    · skip
      subst hsw3
      refine lv_tableIn (off := 135) (tgt := 136) hx hb dX8_address_1 (by decide) (by decide) rfl (by decide) ?_
      refine lv_aload_n hx hb dX8_address_136 rfl (lv_at hl 0 rfl) ?_
      refine va_get (D := D) (T := TX8) (N := 5) hx hb hts jnX8 hown hK hP 0 (wd_0 y ad cap I J) rfl 1 (by decide) (hts _ fl_X8_19) (fun _ h9 => h9) rfl dX8_address_137 ?_
      refine va_getN (D := D) (T := TX4) (N := 9) hx hb hts jnX4 hown hK hP 17 (wd_17 y ad cap I J) rfl 2 (by decide) (hts _ fn_X8_118) (fun _ h9 => h9) rfl dX8_address_140 ?_
      refine lv_iload_n hx hb dX8_address_143 rfl (lv_at hl 2 rfl) ?_
      refine rk_i (run_vn (As := [.int p2]) (rest := []) (b := (ad 38)) hx hb hml hown hO.2 (c_X6_has l D y (wd_38 y ad cap I J) p2) k_X6_has mn_X8_168 ⟨rfl, rfl⟩ ⟨Nat.le_of_ble_eq_true rfl, Nat.le_of_ble_eq_true rfl⟩ (pre_VR hO hP (wd_38 y ad cap I J) rfl) rfl hl.1 rfl (Nat.le_of_ble_eq_true rfl) dX8_address_144 ⟨(Nat.zero_le _), (Nat.zero_le _)⟩) (fun r144 er144 => ?_)
      try dsimp only at er144
      rw [q1] at er144
      refine lv_if_eq (tgt := 165) hx hb dX8_address_147 (by decide) (fun c147 => ?_) (fun c147 => ?_)
      · skip
        have c147 := if01_z er144 c147
        refine lv_ldc2 (v := (-9223372036854775808)) hx hb hown (hts _ kc_X8_159) dX8_address_165 ?_
        refine W.lret (v := (-9223372036854775808)) hx hb hr (fun t ht hW => ⟨_, rfl, ?_, ht⟩) (fun _ h => nomatch h) dX8_address_168
        unfold qAddr
        rw [if_neg (by decide), if_neg (by decide), if_neg (by decide), if_pos rfl]
        first | (rw [ix_no c147]; done) | (rw [ix_in (n := M.length) (by omega) hj0]; done)
      · skip
        have c147 := if01_n er144 c147
        obtain ⟨j0, j1, hj0⟩ := ix_ok (n := M.length) (by omega) c147
        subst j1
        refine lv_aload_n hx hb dX8_address_150 rfl (lv_at hl 0 rfl) ?_
        refine va_get (D := D) (T := TX8) (N := 5) hx hb hts jnX8 hown hK hP 0 (wd_0 y ad cap I J) rfl 1 (by decide) (hts _ fl_X8_19) (fun _ h9 => h9) rfl dX8_address_151 ?_
        refine va_getN (D := D) (T := TX4) (N := 9) hx hb hts jnX4 hown hK hP 17 (wd_17 y ad cap I J) rfl 2 (by decide) (hts _ fn_X8_118) (fun _ h9 => h9) rfl dX8_address_154 ?_
        refine va_getN (D := D) (T := TX6) (N := 11) hx hb hts jnX6 hown hK hP 38 (wd_38 y ad cap I J) rfl 8 (by decide) (hts _ fn_X8_169) (fun _ h9 => h9) rfl dX8_address_157 ?_
        refine lv_iload_n hx hb dX8_address_160 rfl (lv_at hl 2 rfl) ?_
        refine va_lald (D := D) hx hb hK hP 45 1 (wd_45 y ad cap I J) rfl (vp_in_nI (by omega) (by omega)) dX8_address_161 ?_
        rw [nI_clamp (n := j0) (by omega)]
        refine lv_topl (fun v161 ev161 => ?_)
        obtain rfl : v161 = (lN (plc TL M j0)) := by
          rw [ev161]; exact qP _ (by omega)
        refine lv_goto (tgt := 168) hx hb dX8_address_162 (by decide) ?_
        refine W.lret (v := (lN (plc TL M j0))) hx hb hr (fun t ht hW => ⟨_, rfl, ?_, ht⟩) (fun _ h => nomatch h) dX8_address_168
        unfold qAddr
        rw [if_neg (by decide), if_neg (by decide), if_neg (by decide), if_pos rfl]
        first | (rw [ix_no c147]; done) | (rw [ix_in (n := M.length) (by omega) hj0]; done)
    · skip
      subst hsw3
      refine lv_tableIn (off := 168) (tgt := 169) hx hb dX8_address_1 (by decide) (by decide) rfl (by decide) ?_
      refine lv_aload_n hx hb dX8_address_169 rfl (lv_at hl 0 rfl) ?_
      refine va_get (D := D) (T := TX8) (N := 5) hx hb hts jnX8 hown hK hP 0 (wd_0 y ad cap I J) rfl 1 (by decide) (hts _ fl_X8_19) (fun _ h9 => h9) rfl dX8_address_170 ?_
      refine va_getN (D := D) (T := TX4) (N := 9) hx hb hts jnX4 hown hK hP 17 (wd_17 y ad cap I J) rfl 0 (by decide) (hts _ fn_X8_151) (fun _ h9 => h9) rfl dX8_address_173 ?_
      refine va_getN (D := D) (T := TX7) (N := 8) hx hb hts jnX7 hown hK hP 18 (wd_18 y ad cap I J) rfl 0 (by decide) (hts _ fn_X8_38) (fun _ h9 => h9) rfl dX8_address_176 ?_
      refine lv_iload_n hx hb dX8_address_179 rfl (lv_at hl 2 rfl) ?_
      refine rk_i (run_vn (As := [.int p2]) (rest := []) (b := (ad 19)) hx hb hml hown hO.2 (c_X5_hasPool l D y (n1 := TL 0 0) (hT.1.1 ▸ (wd_19 y ad cap I J)) (wd_22 y ad cap I J) (by omega) p2) k_X5_hasPool mn_X8_172 ⟨rfl, rfl⟩ ⟨Nat.le_of_ble_eq_true rfl, Nat.le_of_ble_eq_true rfl⟩ (pre_VR hO hP (wd_19 y ad cap I J) rfl) rfl hl.1 rfl (Nat.le_of_ble_eq_true rfl) dX8_address_180 ⟨(Nat.zero_le _), (Nat.zero_le _)⟩) (fun r180 er180 => ?_)
      try dsimp only at er180
      refine lv_if_eq (tgt := 201) hx hb dX8_address_183 (by decide) (fun c183 => ?_) (fun c183 => ?_)
      · skip
        have c183 := if01_z er180 c183
        refine lv_ldc2 (v := (-9223372036854775808)) hx hb hown (hts _ kc_X8_159) dX8_address_201 ?_
        refine W.lret (v := (-9223372036854775808)) hx hb hr (fun t ht hW => ⟨_, rfl, ?_, ht⟩) (fun _ h => nomatch h) dX8_address_204
        unfold qAddr
        rw [if_neg (by decide), if_neg (by decide), if_neg (by decide), if_neg (by decide), if_pos rfl]
        first | (rw [ix_in (n := TL 0 0) (by omega) hj0]; have hp9 := c183.2; rw [nI_clamp (by omega), (hT.2.1 j0 hj0).2.2] at hp9; obtain ⟨g1, g2, g3⟩ := wS j0 hj0; have h9 := mt (nI_z (by omega)).mpr hp9; simp only []; rw [if_neg h9]; done) | (by_cases h8 : ¬ p2 < 0 ∧ ¬ nI (TL 0 0) ≤ p2; (obtain ⟨j0, j1, hj0⟩ := ix_ok (n := TL 0 0) (by omega) h8; subst j1; rw [ix_in (n := TL 0 0) (by omega) hj0]; obtain ⟨g1, g2, g3⟩ := wS j0 hj0; have h7 : TL 3 j0 = 0 := Classical.byContradiction (fun h6 => c183 ⟨h8, by rw [nI_clamp (by omega), (hT.2.1 j0 hj0).2.2]; exact mt (nI_z (by omega)).mp h6⟩); simp only []; rw [if_pos h7]); (rw [ix_no h8]))
      · skip
        have c183 := if01_n er180 c183
        obtain ⟨j0, j1, hj0⟩ := ix_ok (n := TL 0 0) (by omega) c183.1
        subst j1
        refine lv_aload_n hx hb dX8_address_186 rfl (lv_at hl 0 rfl) ?_
        refine va_get (D := D) (T := TX8) (N := 5) hx hb hts jnX8 hown hK hP 0 (wd_0 y ad cap I J) rfl 1 (by decide) (hts _ fl_X8_19) (fun _ h9 => h9) rfl dX8_address_187 ?_
        refine va_getN (D := D) (T := TX4) (N := 9) hx hb hts jnX4 hown hK hP 17 (wd_17 y ad cap I J) rfl 1 (by decide) (hts _ fn_X8_152) (fun _ h9 => h9) rfl dX8_address_190 ?_
        refine va_getN (D := D) (T := TX0) (N := 4) hx hb hts jnX0 hown hK hP 34 (wd_34 y ad cap I J) rfl 2 (by decide) (hts _ fn_X8_175) (fun _ h9 => h9) rfl dX8_address_193 ?_
        refine lv_iload_n hx hb dX8_address_196 rfl (lv_at hl 2 rfl) ?_
        refine va_lald (D := D) hx hb hK hP 37 1 (wd_37 y ad cap I J) rfl (vp_in_nI (by omega) (by omega)) dX8_address_197 ?_
        rw [nI_clamp (n := j0) (by omega)]
        refine lv_topl (fun v197 ev197 => ?_)
        obtain rfl : v197 = (lN (pE TL (cnt M) j0)) := by
          rw [ev197]; exact (hJ _ (by omega)).2.2
        refine lv_goto (tgt := 204) hx hb dX8_address_198 (by decide) ?_
        refine W.lret (v := (lN (pE TL (cnt M) j0))) hx hb hr (fun t ht hW => ⟨_, rfl, ?_, ht⟩) (fun _ h => nomatch h) dX8_address_204
        unfold qAddr
        rw [if_neg (by decide), if_neg (by decide), if_neg (by decide), if_neg (by decide), if_pos rfl]
        first | (rw [ix_in (n := TL 0 0) (by omega) hj0]; have hp9 := c183.2; rw [nI_clamp (by omega), (hT.2.1 j0 hj0).2.2] at hp9; obtain ⟨g1, g2, g3⟩ := wS j0 hj0; have h9 := mt (nI_z (by omega)).mpr hp9; simp only []; rw [if_neg h9]; done) | (by_cases h8 : ¬ p2 < 0 ∧ ¬ nI (TL 0 0) ≤ p2; (obtain ⟨j0, j1, hj0⟩ := ix_ok (n := TL 0 0) (by omega) h8; subst j1; rw [ix_in (n := TL 0 0) (by omega) hj0]; obtain ⟨g1, g2, g3⟩ := wS j0 hj0; have h7 : TL 3 j0 = 0 := Classical.byContradiction (fun h6 => c183 ⟨h8, by rw [nI_clamp (by omega), (hT.2.1 j0 hj0).2.2]; exact mt (nI_z (by omega)).mp h6⟩); simp only []; rw [if_pos h7]); (rw [ix_no h8]))
set_option maxHeartbeats 4000000 in
set_option maxRecDepth 100000 in
theorem c_X8_route (l : Launch) (D : va_G) (y : Nat → ClassId) (ad : Nat → Nat) (cap : Nat → Nat) (I : Nat → Nat → Int32) (J : Nat → Nat → Int64) {T : Nat → Nat → Nat} {fl : Nat} {TL : Nat → Nat → Nat} {M : List Th} {R : Nat} (hC : CI I J (cap 0) T fl TL M R) (p1 p2 : Int32) : Met l yX8_route [.code yX8_route cX8_route 3 (some .int)] ({ frames := 1, cells := 0, slots := 0, locals := 21 }) (va_Pc [.ref (ad 0), .int p1, .int p2] (PR D y (Wd y ad cap I J))) (vp_Si (fun r => r = qRoute TL M p1 p2)) 0 0 (fun _ => False) := by
  refine Met.ofW (cc := cX8_route) (maxL := 3) (ret := (some .int)) (by decide) rfl ?_
  intro p e s m args below meth c s₁ B hml hv
  obtain ⟨rfl, hP, hO⟩ := hv
  have hx := B.exec
  have hb := B.bytes
  have hr := B.returns
  have hown : s.vm.findClass RX8 = some m.cls := findClass_of_methodNamed B.named
  have hlocks := B.notSynchronized
  have hK := hO.1
  have hts : ∀ w ∈ lw_E, w.before ([.ref (ad 0), .int p1, .int p2] : List Value).toArray s = true := fun w h => hO.2 w h _
  clear B
  have hl := lv_entry ([.ref (ad 0), .int p1, .int p2]) (n := 3) (Nat.le_of_ble_eq_true rfl)
  rw [lg_entry_eq]
  generalize (lg_sl ([.ref (ad 0), .int p1, .int p2]) ++ List.replicate (3 - (lg_sl ([.ref (ad 0), .int p1, .int p2])).length) Slot.unset).toArray = ls at hl ⊢
  have hl : lv_has ls 3 [(0, .ref (ad 0)), (1, .int p1), (2, .int p2)] := hl
  obtain ⟨hT1, hWT, ⟨hf, hf1⟩, hT, hW, hQ, hR5, hR6, hR7, hR8⟩ := hC
  have hW0 := hW
  have hQ0 := hQ
  obtain ⟨⟨w1, w2, w3, w4, w5, w6, w7⟩, wS, wL, wB, wK, wTk, wT0⟩ := hW
  obtain ⟨⟨q1, q2, q3, hTW, htz0⟩, qT, qP, qB, hJ, qE⟩ := hQ
  have hnM : ∀ s, cnt M s ≤ 2400 := fun s => by have := cnt_le M s; omega
  obtain ⟨⟨u1, u2, u3, u4, u5, u6, u7⟩, -⟩ := hWT
  refine lv_aload_n hx hb dX8_route_0 rfl (lv_at hl 0 rfl) ?_
  refine va_get (D := D) (T := TX8) (N := 5) hx hb hts jnX8 hown hK hP 0 (wd_0 y ad cap I J) rfl 1 (by decide) (hts _ fl_X8_19) (fun _ h9 => h9) rfl dX8_route_1 ?_
  refine va_getN (D := D) (T := TX4) (N := 9) hx hb hts jnX4 hown hK hP 17 (wd_17 y ad cap I J) rfl 0 (by decide) (hts _ fn_X8_151) (fun _ h9 => h9) rfl dX8_route_4 ?_
  refine va_getN (D := D) (T := TX7) (N := 8) hx hb hts jnX7 hown hK hP 18 (wd_18 y ad cap I J) rfl 3 (by decide) (hts _ fn_X8_84) (fun _ h9 => h9) rfl dX8_route_7 ?_
  refine lv_iload_n hx hb dX8_route_10 rfl (lv_at hl 1 rfl) ?_
  refine rk_i (run_vn (As := [.int p1]) (rest := []) (b := (ad 29)) hx hb hml hown hO.2 (c_X1_has l D y (wd_29 y ad cap I J) p1) k_X1_has mn_X8_104 ⟨rfl, rfl⟩ ⟨Nat.le_of_ble_eq_true rfl, Nat.le_of_ble_eq_true rfl⟩ (pre_VR hO hP (wd_29 y ad cap I J) rfl) rfl hl.1 rfl (Nat.le_of_ble_eq_true rfl) dX8_route_11 ⟨(Nat.zero_le _), (Nat.zero_le _)⟩) (fun r11 er11 => ?_)
  try dsimp only at er11
  rw [hT.1.2.2.1] at er11
  refine lv_if_ne (tgt := 19) hx hb dX8_route_14 (by decide) (fun c14 => ?_) (fun c14 => ?_)
  · skip
    have c14 := if01_n er11 c14
    obtain ⟨b0, j1, hb0⟩ := ix_ok (n := TL 0 2) (by omega) c14
    subst j1
    refine lv_iload_n hx hb dX8_route_19 rfl (lv_at hl 2 rfl) ?_
    by_cases hsw0 : p2 = 0
    · skip
      subst hsw0
      refine lv_lookup (off := 28) (tgt := 48) hx hb dX8_route_20 (by decide) (by decide) (by decide) ?_
      refine lv_aload_n hx hb dX8_route_48 rfl (lv_at hl 0 rfl) ?_
      refine va_get (D := D) (T := TX8) (N := 5) hx hb hts jnX8 hown hK hP 0 (wd_0 y ad cap I J) rfl 1 (by decide) (hts _ fl_X8_19) (fun _ h9 => h9) rfl dX8_route_49 ?_
      refine va_getN (D := D) (T := TX4) (N := 9) hx hb hts jnX4 hown hK hP 17 (wd_17 y ad cap I J) rfl 3 (by decide) (hts _ fn_X8_178) (fun _ h9 => h9) rfl dX8_route_52 ?_
      refine lv_iload_n hx hb dX8_route_55 rfl (lv_at hl 1 rfl) ?_
      refine va_iald (D := D) hx hb hK hP 48 0 (wd_48 y ad cap I J) rfl (vp_in_nI (by omega) (by omega)) dX8_route_56 ?_
      rw [nI_clamp (n := b0) (by omega)]
      refine lv_topi (fun v56 ev56 => ?_)
      obtain rfl : v56 = (nI (wyB TL M b0)) := by
        rw [ev56]; exact (qB _ (by omega)).1
      refine W.iret (v := (nI (wyB TL M b0))) hx hb hr (fun t ht hW => ⟨_, rfl, ?_, ht⟩) (fun _ h => nomatch h) dX8_route_57
      unfold qRoute
      rw [ix_in (n := TL 0 2) (by omega) hb0]
      simp only []
      rw [if_pos trivial]
    by_cases hsw1 : p2 = 1
    · skip
      subst hsw1
      refine lv_lookup (off := 38) (tgt := 58) hx hb dX8_route_20 (by decide) (by decide) (by decide) ?_
      refine lv_aload_n hx hb dX8_route_58 rfl (lv_at hl 0 rfl) ?_
      refine va_get (D := D) (T := TX8) (N := 5) hx hb hts jnX8 hown hK hP 0 (wd_0 y ad cap I J) rfl 1 (by decide) (hts _ fl_X8_19) (fun _ h9 => h9) rfl dX8_route_59 ?_
      refine va_getN (D := D) (T := TX4) (N := 9) hx hb hts jnX4 hown hK hP 17 (wd_17 y ad cap I J) rfl 4 (by decide) (hts _ fn_X8_181) (fun _ h9 => h9) rfl dX8_route_62 ?_
      refine lv_iload_n hx hb dX8_route_65 rfl (lv_at hl 1 rfl) ?_
      refine va_iald (D := D) hx hb hK hP 49 0 (wd_49 y ad cap I J) rfl (vp_in_nI (by omega) (by omega)) dX8_route_66 ?_
      rw [nI_clamp (n := b0) (by omega)]
      refine lv_topi (fun v66 ev66 => ?_)
      obtain rfl : v66 = (oI (rtB TL M b0)) := by
        rw [ev66]; exact (qB _ (by omega)).2
      refine W.iret (v := (oI (rtB TL M b0))) hx hb hr (fun t ht hW => ⟨_, rfl, ?_, ht⟩) (fun _ h => nomatch h) dX8_route_67
      unfold qRoute
      rw [ix_in (n := TL 0 2) (by omega) hb0]
      simp only []
      rw [if_neg (by decide), if_pos trivial]
    refine lv_lookup (off := 48) (tgt := 68) hx hb dX8_route_20 (by decide) (by simp only [Op.lookupswitch.offset]; rw [if_neg (fun h9 => hsw0 (Int32.toInt_inj.mp h9.symm)), if_neg (fun h9 => hsw1 (Int32.toInt_inj.mp h9.symm))]) (by decide) ?_
    refine lv_iconst (v := (-1)) hx hb dX8_route_68 (by decide) ?_
    refine W.iret (v := (-1)) hx hb hr (fun t ht hW => ⟨_, rfl, ?_, ht⟩) (fun _ h => nomatch h) dX8_route_69
    unfold qRoute
    rw [ix_in (n := TL 0 2) (by omega) hb0]
    simp only []
    rw [if_neg hsw0, if_neg hsw1]
  · skip
    have c14 := if01_z er11 c14
    refine lv_iconst (v := (-1)) hx hb dX8_route_17 (by decide) ?_
    refine W.iret (v := (-1)) hx hb hr (fun t ht hW => ⟨_, rfl, ?_, ht⟩) (fun _ h => nomatch h) dX8_route_18
    unfold qRoute
    rw [ix_no c14]
set_option maxHeartbeats 4000000 in
set_option maxRecDepth 100000 in
theorem c_X8_thunk (l : Launch) (D : va_G) (y : Nat → ClassId) (ad : Nat → Nat) (cap : Nat → Nat) (I : Nat → Nat → Int32) (J : Nat → Nat → Int64) {T : Nat → Nat → Nat} {fl : Nat} {TL : Nat → Nat → Nat} {M : List Th} {R : Nat} (hC : CI I J (cap 0) T fl TL M R) (p1 p2 : Int32) : Met l yX8_thunk [.code yX8_thunk cX8_thunk 3 (some .int)] ({ frames := 1, cells := 0, slots := 0, locals := 21 }) (va_Pc [.ref (ad 0), .int p1, .int p2] (PR D y (Wd y ad cap I J))) (vp_Si (fun r => r = qThunk TL M p1 p2)) 0 0 (fun _ => False) := by
  refine Met.ofW (cc := cX8_thunk) (maxL := 3) (ret := (some .int)) (by decide) rfl ?_
  intro p e s m args below meth c s₁ B hml hv
  obtain ⟨rfl, hP, hO⟩ := hv
  have hx := B.exec
  have hb := B.bytes
  have hr := B.returns
  have hown : s.vm.findClass RX8 = some m.cls := findClass_of_methodNamed B.named
  have hlocks := B.notSynchronized
  have hK := hO.1
  have hts : ∀ w ∈ lw_E, w.before ([.ref (ad 0), .int p1, .int p2] : List Value).toArray s = true := fun w h => hO.2 w h _
  clear B
  have hl := lv_entry ([.ref (ad 0), .int p1, .int p2]) (n := 3) (Nat.le_of_ble_eq_true rfl)
  rw [lg_entry_eq]
  generalize (lg_sl ([.ref (ad 0), .int p1, .int p2]) ++ List.replicate (3 - (lg_sl ([.ref (ad 0), .int p1, .int p2])).length) Slot.unset).toArray = ls at hl ⊢
  have hl : lv_has ls 3 [(0, .ref (ad 0)), (1, .int p1), (2, .int p2)] := hl
  obtain ⟨hT1, hWT, ⟨hf, hf1⟩, hT, hW, hQ, hR5, hR6, hR7, hR8⟩ := hC
  have hW0 := hW
  have hQ0 := hQ
  obtain ⟨⟨w1, w2, w3, w4, w5, w6, w7⟩, wS, wL, wB, wK, wTk, wT0⟩ := hW
  obtain ⟨⟨q1, q2, q3, hTW, htz0⟩, qT, qP, qB, hJ, qE⟩ := hQ
  have hnM : ∀ s, cnt M s ≤ 2400 := fun s => by have := cnt_le M s; omega
  obtain ⟨⟨u1, u2, u3, u4, u5, u6, u7⟩, -⟩ := hWT
  refine lv_aload_n hx hb dX8_thunk_0 rfl (lv_at hl 0 rfl) ?_
  refine va_get (D := D) (T := TX8) (N := 5) hx hb hts jnX8 hown hK hP 0 (wd_0 y ad cap I J) rfl 1 (by decide) (hts _ fl_X8_19) (fun _ h9 => h9) rfl dX8_thunk_1 ?_
  refine va_getN (D := D) (T := TX4) (N := 9) hx hb hts jnX4 hown hK hP 17 (wd_17 y ad cap I J) rfl 2 (by decide) (hts _ fn_X8_118) (fun _ h9 => h9) rfl dX8_thunk_4 ?_
  refine lv_iload_n hx hb dX8_thunk_7 rfl (lv_at hl 1 rfl) ?_
  refine rk_i (run_vn (As := [.int p1]) (rest := []) (b := (ad 38)) hx hb hml hown hO.2 (c_X6_has l D y (wd_38 y ad cap I J) p1) k_X6_has mn_X8_168 ⟨rfl, rfl⟩ ⟨Nat.le_of_ble_eq_true rfl, Nat.le_of_ble_eq_true rfl⟩ (pre_VR hO hP (wd_38 y ad cap I J) rfl) rfl hl.1 rfl (Nat.le_of_ble_eq_true rfl) dX8_thunk_8 ⟨(Nat.zero_le _), (Nat.zero_le _)⟩) (fun r8 er8 => ?_)
  try dsimp only at er8
  rw [q1] at er8
  refine lv_if_ne (tgt := 16) hx hb dX8_thunk_11 (by decide) (fun c11 => ?_) (fun c11 => ?_)
  · skip
    have c11 := if01_n er8 c11
    obtain ⟨t0, j1, ht0⟩ := ix_ok (n := M.length) (by omega) c11
    subst j1
    refine lv_iload_n hx hb dX8_thunk_16 rfl (lv_at hl 2 rfl) ?_
    by_cases hsw : p2.toInt < 0 ∨ 5 < p2.toInt
    · skip
      refine lv_tableOut (tgt := 134) hx hb dX8_thunk_17 hsw (by decide) ?_
      refine lv_iconst (v := (-1)) hx hb dX8_thunk_134 (by decide) ?_
      refine W.iret (v := (-1)) hx hb hr (fun t ht hW => ⟨_, rfl, ?_, ht⟩) (fun _ h => nomatch h) dX8_thunk_135
      unfold qThunk
      rw [ix_in (n := M.length) (by omega) ht0]
      simp only []
      rw [if_neg (fun e => by rw [e] at hsw; exact absurd hsw (by decide)), if_neg (fun e => by rw [e] at hsw; exact absurd hsw (by decide)), if_neg (fun e => by rw [e] at hsw; exact absurd hsw (by decide)), if_neg (fun e => by rw [e] at hsw; exact absurd hsw (by decide)), if_neg (fun e => by rw [e] at hsw; exact absurd hsw (by decide)), if_neg (fun e => by rw [e] at hsw; exact absurd hsw (by decide))]
    · skip
      have hsw2 : p2 = 0 ∨ p2 = 1 ∨ p2 = 2 ∨ p2 = 3 ∨ p2 = 4 ∨ p2 = 5 := by
        have h1 : p2.toInt = 0 ∨ p2.toInt = 1 ∨ p2.toInt = 2 ∨ p2.toInt = 3 ∨ p2.toInt = 4 ∨ p2.toInt = 5 := by omega
        rcases h1 with h1 | h1 | h1 | h1 | h1 | h1
        · exact Or.inl (Int32.toInt_inj.mp h1)
        · exact Or.inr (Or.inl (Int32.toInt_inj.mp h1))
        · exact Or.inr (Or.inr (Or.inl (Int32.toInt_inj.mp h1)))
        · exact Or.inr (Or.inr (Or.inr (Or.inl (Int32.toInt_inj.mp h1))))
        · exact Or.inr (Or.inr (Or.inr (Or.inr (Or.inl (Int32.toInt_inj.mp h1)))))
        · exact Or.inr (Or.inr (Or.inr (Or.inr (Or.inr (Int32.toInt_inj.mp h1)))))
      rcases hsw2 with hsw3 | hsw3 | hsw3 | hsw3 | hsw3 | hsw3
      · skip
        subst hsw3
        refine lv_tableIn (off := 39) (tgt := 56) hx hb dX8_thunk_17 (by decide) (by decide) rfl (by decide) ?_
        refine lv_aload_n hx hb dX8_thunk_56 rfl (lv_at hl 0 rfl) ?_
        refine va_get (D := D) (T := TX8) (N := 5) hx hb hts jnX8 hown hK hP 0 (wd_0 y ad cap I J) rfl 1 (by decide) (hts _ fl_X8_19) (fun _ h9 => h9) rfl dX8_thunk_57 ?_
        refine va_getN (D := D) (T := TX4) (N := 9) hx hb hts jnX4 hown hK hP 17 (wd_17 y ad cap I J) rfl 2 (by decide) (hts _ fn_X8_118) (fun _ h9 => h9) rfl dX8_thunk_60 ?_
        refine va_getN (D := D) (T := TX6) (N := 11) hx hb hts jnX6 hown hK hP 38 (wd_38 y ad cap I J) rfl 2 (by decide) (hts _ fn_X8_184) (fun _ h9 => h9) rfl dX8_thunk_63 ?_
        refine lv_iload_n hx hb dX8_thunk_66 rfl (lv_at hl 1 rfl) ?_
        refine va_iald (D := D) hx hb hK hP 39 0 (wd_39 y ad cap I J) rfl (vp_in_nI (by omega) (by omega)) dX8_thunk_67 ?_
        rw [nI_clamp (n := t0) (by omega)]
        refine lv_topi (fun v67 ev67 => ?_)
        obtain rfl : v67 = (nI ((thA M t0).1)) := by
          rw [ev67]; exact (qT _ (by omega)).1
        refine W.iret (v := (nI ((thA M t0).1))) hx hb hr (fun t ht hW => ⟨_, rfl, ?_, ht⟩) (fun _ h => nomatch h) dX8_thunk_68
        unfold qThunk
        rw [ix_in (n := M.length) (by omega) ht0]
        simp only []
        rw [if_pos trivial]
      · skip
        subst hsw3
        refine lv_tableIn (off := 52) (tgt := 69) hx hb dX8_thunk_17 (by decide) (by decide) rfl (by decide) ?_
        refine lv_aload_n hx hb dX8_thunk_69 rfl (lv_at hl 0 rfl) ?_
        refine va_get (D := D) (T := TX8) (N := 5) hx hb hts jnX8 hown hK hP 0 (wd_0 y ad cap I J) rfl 1 (by decide) (hts _ fl_X8_19) (fun _ h9 => h9) rfl dX8_thunk_70 ?_
        refine va_getN (D := D) (T := TX4) (N := 9) hx hb hts jnX4 hown hK hP 17 (wd_17 y ad cap I J) rfl 2 (by decide) (hts _ fn_X8_118) (fun _ h9 => h9) rfl dX8_thunk_73 ?_
        refine va_getN (D := D) (T := TX6) (N := 11) hx hb hts jnX6 hown hK hP 38 (wd_38 y ad cap I J) rfl 3 (by decide) (hts _ fn_X8_187) (fun _ h9 => h9) rfl dX8_thunk_76 ?_
        refine lv_iload_n hx hb dX8_thunk_79 rfl (lv_at hl 1 rfl) ?_
        refine va_iald (D := D) hx hb hK hP 40 0 (wd_40 y ad cap I J) rfl (vp_in_nI (by omega) (by omega)) dX8_thunk_80 ?_
        rw [nI_clamp (n := t0) (by omega)]
        refine lv_topi (fun v80 ev80 => ?_)
        obtain rfl : v80 = (nI ((thA M t0).2.1)) := by
          rw [ev80]; exact (qT _ (by omega)).2.1
        refine W.iret (v := (nI ((thA M t0).2.1))) hx hb hr (fun t ht hW => ⟨_, rfl, ?_, ht⟩) (fun _ h => nomatch h) dX8_thunk_81
        unfold qThunk
        rw [ix_in (n := M.length) (by omega) ht0]
        simp only []
        rw [if_neg (by decide), if_pos trivial]
      · skip
        subst hsw3
        refine lv_tableIn (off := 65) (tgt := 82) hx hb dX8_thunk_17 (by decide) (by decide) rfl (by decide) ?_
        refine lv_aload_n hx hb dX8_thunk_82 rfl (lv_at hl 0 rfl) ?_
        refine va_get (D := D) (T := TX8) (N := 5) hx hb hts jnX8 hown hK hP 0 (wd_0 y ad cap I J) rfl 1 (by decide) (hts _ fl_X8_19) (fun _ h9 => h9) rfl dX8_thunk_83 ?_
        refine va_getN (D := D) (T := TX4) (N := 9) hx hb hts jnX4 hown hK hP 17 (wd_17 y ad cap I J) rfl 2 (by decide) (hts _ fn_X8_118) (fun _ h9 => h9) rfl dX8_thunk_86 ?_
        refine va_getN (D := D) (T := TX6) (N := 11) hx hb hts jnX6 hown hK hP 38 (wd_38 y ad cap I J) rfl 4 (by decide) (hts _ fn_X8_188) (fun _ h9 => h9) rfl dX8_thunk_89 ?_
        refine lv_iload_n hx hb dX8_thunk_92 rfl (lv_at hl 1 rfl) ?_
        refine va_iald (D := D) hx hb hK hP 41 0 (wd_41 y ad cap I J) rfl (vp_in_nI (by omega) (by omega)) dX8_thunk_93 ?_
        rw [nI_clamp (n := t0) (by omega)]
        refine lv_topi (fun v93 ev93 => ?_)
        obtain rfl : v93 = (nI ((thA M t0).2.2.1)) := by
          rw [ev93]; exact (qT _ (by omega)).2.2.1
        refine W.iret (v := (nI ((thA M t0).2.2.1))) hx hb hr (fun t ht hW => ⟨_, rfl, ?_, ht⟩) (fun _ h => nomatch h) dX8_thunk_94
        unfold qThunk
        rw [ix_in (n := M.length) (by omega) ht0]
        simp only []
        rw [if_neg (by decide), if_neg (by decide), if_pos trivial]
      · skip
        subst hsw3
        refine lv_tableIn (off := 78) (tgt := 95) hx hb dX8_thunk_17 (by decide) (by decide) rfl (by decide) ?_
        refine lv_aload_n hx hb dX8_thunk_95 rfl (lv_at hl 0 rfl) ?_
        refine va_get (D := D) (T := TX8) (N := 5) hx hb hts jnX8 hown hK hP 0 (wd_0 y ad cap I J) rfl 1 (by decide) (hts _ fl_X8_19) (fun _ h9 => h9) rfl dX8_thunk_96 ?_
        refine va_getN (D := D) (T := TX4) (N := 9) hx hb hts jnX4 hown hK hP 17 (wd_17 y ad cap I J) rfl 2 (by decide) (hts _ fn_X8_118) (fun _ h9 => h9) rfl dX8_thunk_99 ?_
        refine va_getN (D := D) (T := TX6) (N := 11) hx hb hts jnX6 hown hK hP 38 (wd_38 y ad cap I J) rfl 5 (by decide) (hts _ fn_X8_191) (fun _ h9 => h9) rfl dX8_thunk_102 ?_
        refine lv_iload_n hx hb dX8_thunk_105 rfl (lv_at hl 1 rfl) ?_
        refine va_iald (D := D) hx hb hK hP 42 0 (wd_42 y ad cap I J) rfl (vp_in_nI (by omega) (by omega)) dX8_thunk_106 ?_
        rw [nI_clamp (n := t0) (by omega)]
        refine lv_topi (fun v106 ev106 => ?_)
        obtain rfl : v106 = (nI ((thA M t0).2.2.2)) := by
          rw [ev106]; exact (qT _ (by omega)).2.2.2.1
        refine W.iret (v := (nI ((thA M t0).2.2.2))) hx hb hr (fun t ht hW => ⟨_, rfl, ?_, ht⟩) (fun _ h => nomatch h) dX8_thunk_107
        unfold qThunk
        rw [ix_in (n := M.length) (by omega) ht0]
        simp only []
        rw [if_neg (by decide), if_neg (by decide), if_neg (by decide), if_pos trivial]
      · skip
        subst hsw3
        refine lv_tableIn (off := 91) (tgt := 108) hx hb dX8_thunk_17 (by decide) (by decide) rfl (by decide) ?_
        refine lv_aload_n hx hb dX8_thunk_108 rfl (lv_at hl 0 rfl) ?_
        refine va_get (D := D) (T := TX8) (N := 5) hx hb hts jnX8 hown hK hP 0 (wd_0 y ad cap I J) rfl 1 (by decide) (hts _ fl_X8_19) (fun _ h9 => h9) rfl dX8_thunk_109 ?_
        refine va_getN (D := D) (T := TX4) (N := 9) hx hb hts jnX4 hown hK hP 17 (wd_17 y ad cap I J) rfl 2 (by decide) (hts _ fn_X8_118) (fun _ h9 => h9) rfl dX8_thunk_112 ?_
        refine va_getN (D := D) (T := TX6) (N := 11) hx hb hts jnX6 hown hK hP 38 (wd_38 y ad cap I J) rfl 6 (by decide) (hts _ fn_X8_194) (fun _ h9 => h9) rfl dX8_thunk_115 ?_
        refine lv_iload_n hx hb dX8_thunk_118 rfl (lv_at hl 1 rfl) ?_
        refine va_iald (D := D) hx hb hK hP 43 0 (wd_43 y ad cap I J) rfl (vp_in_nI (by omega) (by omega)) dX8_thunk_119 ?_
        rw [nI_clamp (n := t0) (by omega)]
        refine lv_topi (fun v119 ev119 => ?_)
        obtain rfl : v119 = (nI (us TL M t0 (TL 0 2))) := by
          rw [ev119]; exact (qT _ (by omega)).2.2.2.2.1
        refine W.iret (v := (nI (us TL M t0 (TL 0 2)))) hx hb hr (fun t ht hW => ⟨_, rfl, ?_, ht⟩) (fun _ h => nomatch h) dX8_thunk_120
        unfold qThunk
        rw [ix_in (n := M.length) (by omega) ht0]
        simp only []
        rw [if_neg (by decide), if_neg (by decide), if_neg (by decide), if_neg (by decide), if_pos trivial]
      · skip
        subst hsw3
        refine lv_tableIn (off := 104) (tgt := 121) hx hb dX8_thunk_17 (by decide) (by decide) rfl (by decide) ?_
        refine lv_aload_n hx hb dX8_thunk_121 rfl (lv_at hl 0 rfl) ?_
        refine va_get (D := D) (T := TX8) (N := 5) hx hb hts jnX8 hown hK hP 0 (wd_0 y ad cap I J) rfl 1 (by decide) (hts _ fl_X8_19) (fun _ h9 => h9) rfl dX8_thunk_122 ?_
        refine va_getN (D := D) (T := TX4) (N := 9) hx hb hts jnX4 hown hK hP 17 (wd_17 y ad cap I J) rfl 2 (by decide) (hts _ fn_X8_118) (fun _ h9 => h9) rfl dX8_thunk_125 ?_
        refine va_getN (D := D) (T := TX6) (N := 11) hx hb hts jnX6 hown hK hP 38 (wd_38 y ad cap I J) rfl 7 (by decide) (hts _ fn_X8_197) (fun _ h9 => h9) rfl dX8_thunk_128 ?_
        refine lv_iload_n hx hb dX8_thunk_131 rfl (lv_at hl 1 rfl) ?_
        refine va_iald (D := D) hx hb hK hP 44 0 (wd_44 y ad cap I J) rfl (vp_in_nI (by omega) (by omega)) dX8_thunk_132 ?_
        rw [nI_clamp (n := t0) (by omega)]
        refine lv_topi (fun v132 ev132 => ?_)
        obtain rfl : v132 = (nI (rk M t0)) := by
          rw [ev132]; exact (qT _ (by omega)).2.2.2.2.2
        refine W.iret (v := (nI (rk M t0))) hx hb hr (fun t ht hW => ⟨_, rfl, ?_, ht⟩) (fun _ h => nomatch h) dX8_thunk_133
        unfold qThunk
        rw [ix_in (n := M.length) (by omega) ht0]
        simp only []
        rw [if_neg (by decide), if_neg (by decide), if_neg (by decide), if_neg (by decide), if_neg (by decide), if_pos trivial]
  · skip
    have c11 := if01_z er8 c11
    refine lv_iconst (v := (-1)) hx hb dX8_thunk_14 (by decide) ?_
    refine W.iret (v := (-1)) hx hb hr (fun t ht hW => ⟨_, rfl, ?_, ht⟩) (fun _ h => nomatch h) dX8_thunk_15
    unfold qThunk
    rw [ix_no c11]
set_option maxHeartbeats 4000000 in
set_option maxRecDepth 100000 in
theorem c_X8_encoded (l : Launch) (D : va_G) (y : Nat → ClassId) (ad : Nat → Nat) (cap : Nat → Nat) (I : Nat → Nat → Int32) (J : Nat → Nat → Int64) {T : Nat → Nat → Nat} {fl : Nat} {TL : Nat → Nat → Nat} {M : List Th} {R : Nat} (hC : CI I J (cap 0) T fl TL M R) (p1 p2 : Int32) : Met l yX8_encoded [.code yX8_encoded cX8_encoded 3 (some .int)] ({ frames := 4, cells := 0, slots := 0, locals := 103 }) (va_Pc [.ref (ad 0), .int p1, .int p2] (PR D y (Wd y ad cap I J))) (vp_Si (fun r => r = qEnc TL M p1 p2)) 0 0 (fun _ => False) := by
  refine Met.ofW (cc := cX8_encoded) (maxL := 3) (ret := (some .int)) (by decide) rfl ?_
  intro p e s m args below meth c s₁ B hml hv
  obtain ⟨rfl, hP, hO⟩ := hv
  have hx := B.exec
  have hb := B.bytes
  have hr := B.returns
  have hown : s.vm.findClass RX8 = some m.cls := findClass_of_methodNamed B.named
  have hlocks := B.notSynchronized
  have hK := hO.1
  have hts : ∀ w ∈ lw_E, w.before ([.ref (ad 0), .int p1, .int p2] : List Value).toArray s = true := fun w h => hO.2 w h _
  clear B
  have hl := lv_entry ([.ref (ad 0), .int p1, .int p2]) (n := 3) (Nat.le_of_ble_eq_true rfl)
  rw [lg_entry_eq]
  generalize (lg_sl ([.ref (ad 0), .int p1, .int p2]) ++ List.replicate (3 - (lg_sl ([.ref (ad 0), .int p1, .int p2])).length) Slot.unset).toArray = ls at hl ⊢
  have hl : lv_has ls 3 [(0, .ref (ad 0)), (1, .int p1), (2, .int p2)] := hl
  obtain ⟨hT1, hWT, ⟨hf, hf1⟩, hT, hW, hQ, hR5, hR6, hR7, hR8⟩ := hC
  have hW0 := hW
  have hQ0 := hQ
  obtain ⟨⟨w1, w2, w3, w4, w5, w6, w7⟩, wS, wL, wB, wK, wTk, wT0⟩ := hW
  obtain ⟨⟨q1, q2, q3, hTW, htz0⟩, qT, qP, qB, hJ, qE⟩ := hQ
  have hnM : ∀ s, cnt M s ≤ 2400 := fun s => by have := cnt_le M s; omega
  obtain ⟨⟨u1, u2, u3, u4, u5, u6, u7⟩, -⟩ := hWT
  refine lv_iload_n hx hb dX8_encoded_0 rfl (lv_at hl 1 rfl) ?_
  by_cases hsw0 : p1 = 0
  · skip
    subst hsw0
    refine lv_lookup (off := 27) (tgt := 28) hx hb dX8_encoded_1 (by decide) (by decide) (by decide) ?_
    refine lv_aload_n hx hb dX8_encoded_28 rfl (lv_at hl 0 rfl) ?_
    refine va_get (D := D) (T := TX8) (N := 5) hx hb hts jnX8 hown hK hP 0 (wd_0 y ad cap I J) rfl 1 (by decide) (hts _ fl_X8_19) (fun _ h9 => h9) rfl dX8_encoded_29 ?_
    refine lv_iload_n hx hb dX8_encoded_32 rfl (lv_at hl 2 rfl) ?_
    refine rk_i (run_vn (As := [.int p2]) (rest := []) (b := (ad 17)) hx hb hml hown hO.2 (c_X4_branchCode l D y ad cap I J hT hW0 hQ0 p2) k_X4_branchCode mn_X8_200 ⟨rfl, rfl⟩ ⟨Nat.le_of_ble_eq_true rfl, Nat.le_of_ble_eq_true rfl⟩ (pre_VR hO hP (wd_17 y ad cap I J) rfl) rfl hl.1 rfl (Nat.le_of_ble_eq_true rfl) dX8_encoded_33 ⟨(Nat.zero_le _), (Nat.zero_le _)⟩) (fun r33 er33 => ?_)
    try dsimp only at er33
    refine W.iret (v := r33) hx hb hr (fun t ht hW => ⟨_, rfl, ?_, ht⟩) (fun _ h => nomatch h) dX8_encoded_36
    unfold qEnc
    rw [if_pos rfl]
    exact er33
  by_cases hsw1 : p1 = 1
  · skip
    subst hsw1
    refine lv_lookup (off := 36) (tgt := 37) hx hb dX8_encoded_1 (by decide) (by decide) (by decide) ?_
    refine lv_aload_n hx hb dX8_encoded_37 rfl (lv_at hl 0 rfl) ?_
    refine va_get (D := D) (T := TX8) (N := 5) hx hb hts jnX8 hown hK hP 0 (wd_0 y ad cap I J) rfl 1 (by decide) (hts _ fl_X8_19) (fun _ h9 => h9) rfl dX8_encoded_38 ?_
    refine lv_iload_n hx hb dX8_encoded_41 rfl (lv_at hl 2 rfl) ?_
    refine rk_i (run_vn (As := [.int p2]) (rest := []) (b := (ad 17)) hx hb hml hown hO.2 (c_X4_thunkCode l D y ad cap I J hT hW0 hQ0 p2) k_X4_thunkCode mn_X8_203 ⟨rfl, rfl⟩ ⟨Nat.le_of_ble_eq_true rfl, Nat.le_of_ble_eq_true rfl⟩ (pre_VR hO hP (wd_17 y ad cap I J) rfl) rfl hl.1 rfl (Nat.le_of_ble_eq_true rfl) dX8_encoded_42 ⟨(Nat.zero_le _), (Nat.zero_le _)⟩) (fun r42 er42 => ?_)
    try dsimp only at er42
    refine W.iret (v := r42) hx hb hr (fun t ht hW => ⟨_, rfl, ?_, ht⟩) (fun _ h => nomatch h) dX8_encoded_45
    unfold qEnc
    rw [if_neg (by decide), if_pos rfl]
    exact er42
  refine lv_lookup (off := 45) (tgt := 46) hx hb dX8_encoded_1 (by decide) (by simp only [Op.lookupswitch.offset]; rw [if_neg (fun h9 => hsw0 (Int32.toInt_inj.mp h9.symm)), if_neg (fun h9 => hsw1 (Int32.toInt_inj.mp h9.symm))]) (by decide) ?_
  refine lv_iconst (v := (-1)) hx hb dX8_encoded_46 (by decide) ?_
  refine W.iret (v := (-1)) hx hb hr (fun t ht hW => ⟨_, rfl, ?_, ht⟩) (fun _ h => nomatch h) dX8_encoded_47
  unfold qEnc
  rw [if_neg hsw0, if_neg hsw1]
set_option maxHeartbeats 4000000 in
set_option maxRecDepth 100000 in
theorem c_X8_at (l : Launch) (D : va_G) (y : Nat → ClassId) (ad : Nat → Nat) (cap : Nat → Nat) (I : Nat → Nat → Int32) (J : Nat → Nat → Int64) {T : Nat → Nat → Nat} {fl : Nat} {TL : Nat → Nat → Nat} {M : List Th} {R : Nat} (hC : CI I J (cap 0) T fl TL M R) (x0 : Int64) : Met l yX8_at [.code yX8_at cX8_at 3 (some .int)] ({ frames := 2, cells := 0, slots := 0, locals := 47 }) (va_Pc [.ref (ad 0), .long x0] (PR D y (Wd y ad cap I J))) (vp_Si (fun r => r = atB TL M x0)) 0 0 (fun _ => False) := by
  refine Met.ofW (cc := cX8_at) (maxL := 3) (ret := (some .int)) (by decide) rfl ?_
  intro p e s m args below meth c s₁ B hml hv
  obtain ⟨rfl, hP, hO⟩ := hv
  have hx := B.exec
  have hb := B.bytes
  have hr := B.returns
  have hown : s.vm.findClass RX8 = some m.cls := findClass_of_methodNamed B.named
  have hlocks := B.notSynchronized
  have hK := hO.1
  have hts : ∀ w ∈ lw_E, w.before ([.ref (ad 0), .long x0] : List Value).toArray s = true := fun w h => hO.2 w h _
  clear B
  have hl := lv_entry ([.ref (ad 0), .long x0]) (n := 3) (Nat.le_of_ble_eq_true rfl)
  rw [lg_entry_eq]
  generalize (lg_sl ([.ref (ad 0), .long x0]) ++ List.replicate (3 - (lg_sl ([.ref (ad 0), .long x0])).length) Slot.unset).toArray = ls at hl ⊢
  have hl : lv_has ls 3 [(0, .ref (ad 0)), (1, .long x0)] := hl
  obtain ⟨hT1, hWT, ⟨hf, hf1⟩, hT, hW, hQ, hR5, hR6, hR7, hR8⟩ := hC
  have hW0 := hW
  have hQ0 := hQ
  obtain ⟨⟨w1, w2, w3, w4, w5, w6, w7⟩, wS, wL, wB, wK, wTk, wT0⟩ := hW
  obtain ⟨⟨q1, q2, q3, hTW, htz0⟩, qT, qP, qB, hJ, qE⟩ := hQ
  have hnM : ∀ s, cnt M s ≤ 2400 := fun s => by have := cnt_le M s; omega
  obtain ⟨⟨u1, u2, u3, u4, u5, u6, u7⟩, -⟩ := hWT
  refine lv_aload_n hx hb dX8_at_0 rfl (lv_at hl 0 rfl) ?_
  refine va_get (D := D) (T := TX8) (N := 5) hx hb hts jnX8 hown hK hP 0 (wd_0 y ad cap I J) rfl 1 (by decide) (hts _ fl_X8_19) (fun _ h9 => h9) rfl dX8_at_1 ?_
  refine lv_lload_n hx hb dX8_at_4 rfl (lv_at hl 1 rfl) ?_
  refine rk_i (run_vn (As := [.long x0]) (rest := []) (b := (ad 17)) hx hb hml hown hO.2 (c_X4_whatIsAt l D y ad cap I J hT hW0 hQ0 x0) k_X4_whatIsAt mn_X8_206 ⟨rfl, rfl⟩ ⟨Nat.le_of_ble_eq_true rfl, Nat.le_of_ble_eq_true rfl⟩ (pre_VR hO hP (wd_17 y ad cap I J) rfl) rfl hl.1 rfl (Nat.le_of_ble_eq_true rfl) dX8_at_5 ⟨(Nat.zero_le _), (Nat.zero_le _)⟩) (fun r5 er5 => ?_)
  try dsimp only at er5
  refine W.iret (v := r5) hx hb hr (fun t ht hW => ⟨_, rfl, ?_, ht⟩) (fun _ h => nomatch h) dX8_at_8
  exact er5
set_option maxHeartbeats 4000000 in
set_option maxRecDepth 100000 in
theorem c_X8_walk (l : Launch) (D : va_G) (y : Nat → ClassId) (ad : Nat → Nat) (cap : Nat → Nat) (I : Nat → Nat → Int32) (J : Nat → Nat → Int64) {T : Nat → Nat → Nat} {fl : Nat} {TL : Nat → Nat → Nat} {M : List Th} {R : Nat} (hC : CI I J (cap 0) T fl TL M R) (p1 : Int32) : Met l yX8_walk [.code yX8_walk cX8_walk 2 (some .long)] ({ frames := 5, cells := 0, slots := 0, locals := 128 }) (va_Pc [.ref (ad 0), .int p1] (PR D y (Wd y ad cap I J))) (vp_Sl (fun r => r = wkB TL M (ix (TL 0 2) p1))) 0 0 (fun _ => False) := by
  refine Met.ofW (cc := cX8_walk) (maxL := 2) (ret := (some .long)) (by decide) rfl ?_
  intro p e s m args below meth c s₁ B hml hv
  obtain ⟨rfl, hP, hO⟩ := hv
  have hx := B.exec
  have hb := B.bytes
  have hr := B.returns
  have hown : s.vm.findClass RX8 = some m.cls := findClass_of_methodNamed B.named
  have hlocks := B.notSynchronized
  have hK := hO.1
  have hts : ∀ w ∈ lw_E, w.before ([.ref (ad 0), .int p1] : List Value).toArray s = true := fun w h => hO.2 w h _
  clear B
  have hl := lv_entry ([.ref (ad 0), .int p1]) (n := 2) (Nat.le_of_ble_eq_true rfl)
  rw [lg_entry_eq]
  generalize (lg_sl ([.ref (ad 0), .int p1]) ++ List.replicate (2 - (lg_sl ([.ref (ad 0), .int p1])).length) Slot.unset).toArray = ls at hl ⊢
  have hl : lv_has ls 2 [(0, .ref (ad 0)), (1, .int p1)] := hl
  obtain ⟨hT1, hWT, ⟨hf, hf1⟩, hT, hW, hQ, hR5, hR6, hR7, hR8⟩ := hC
  have hW0 := hW
  have hQ0 := hQ
  obtain ⟨⟨w1, w2, w3, w4, w5, w6, w7⟩, wS, wL, wB, wK, wTk, wT0⟩ := hW
  obtain ⟨⟨q1, q2, q3, hTW, htz0⟩, qT, qP, qB, hJ, qE⟩ := hQ
  have hnM : ∀ s, cnt M s ≤ 2400 := fun s => by have := cnt_le M s; omega
  obtain ⟨⟨u1, u2, u3, u4, u5, u6, u7⟩, -⟩ := hWT
  refine lv_aload_n hx hb dX8_walk_0 rfl (lv_at hl 0 rfl) ?_
  refine va_get (D := D) (T := TX8) (N := 5) hx hb hts jnX8 hown hK hP 0 (wd_0 y ad cap I J) rfl 1 (by decide) (hts _ fl_X8_19) (fun _ h9 => h9) rfl dX8_walk_1 ?_
  refine lv_iload_n hx hb dX8_walk_4 rfl (lv_at hl 1 rfl) ?_
  refine rk_l (run_vn (As := [.int p1]) (rest := []) (b := (ad 17)) hx hb hml hown hO.2 (c_X4_walkFrom l D y ad cap I J hT hW0 hQ0 p1) k_X4_walkFrom mn_X8_210 ⟨rfl, rfl⟩ ⟨Nat.le_of_ble_eq_true rfl, Nat.le_of_ble_eq_true rfl⟩ (pre_VR hO hP (wd_17 y ad cap I J) rfl) rfl hl.1 rfl (Nat.le_of_ble_eq_true rfl) dX8_walk_5 ⟨(Nat.zero_le _), (Nat.zero_le _)⟩) (fun r5 er5 => ?_)
  try dsimp only at er5
  refine W.lret (v := r5) hx hb hr (fun t ht hW => ⟨_, rfl, ?_, ht⟩) (fun _ h => nomatch h) dX8_walk_8
  exact er5
