theorem arr_known {args : Array Value} {s : State} {ty : FieldType} (h : (Cond.arrayClass ty).before args s = true) : ∃ cA : ClassId, ArrOfT s cA ty ∧ s.vm.findClass ("[" ++ ty.toString) = some cA := by
  obtain ⟨cA, kA, comp, h1, h2, h3⟩ := Cond.arrayClass_spec h
  exact ⟨cA, fun n z => ⟨fun k h => (by cases h), kA, h2, comp, h3⟩, h1⟩
def fZ : Nat → Int32 := fun k => ([0, 0, 0, 0, 0, 0, 1, -1] : List Int32).getD k 0
def I0 : Nat → Nat → Int32 := fun r => ([fun _ => 0, fZ, fun _ => 0, fun _ => 0, fun _ => 0, fun _ => 0, fun _ => 0, fun _ => 0, fun _ => 0, fun _ => 0, fun _ => 0, fun _ => 0, fun _ => 0, fun _ => 0, fun _ => 0, fun _ => 0, fun _ => 0, fun _ => 0, fZ] : List (Nat → Int32)).getD r (fun _ => 0)
def J0 : Nat → Nat → Int64 := fun _ _ => 0
def T0 : Nat → Nat → Nat := fun _ _ => 0
def capZ (u : Nat → Nat) : Nat → Nat := fun j => if j = 0 then 16 else u j
def adZ (q : Nat) (u : Nat → Nat) (q2 : Nat) (v : Nat → Nat) : Nat → Nat := fun j => ([q, u 1, u 2, u 3, u 4, u 5, u 6, u 7, u 8, u 9, u 10, u 11, u 12, u 13, u 14, u 15, u 16, u 17, u 18, u 19, u 20, u 21, u 22, u 23, u 24, u 25, u 26, u 27, u 28, u 29, u 30, u 31, u 32, u 33, u 34, u 35, u 36, u 37, u 38, u 39, u 40, u 41, u 42, u 43, u 44, u 45, u 46, u 47, u 48, u 49, u 50, u 51, u 52, u 53, u 54, q2, v 1, v 2, v 3, v 4, v 5, v 6, v 7, v 8, v 9, v 10, v 11, v 12, v 13, v 14, v 15, v 16, v 17, v 18, v 19, v 20, v 21, v 22, v 23, v 24, v 25, v 26, v 27, v 28, v 29, v 30, v 31] : List Nat).getD j 0
theorem wf0 : WF T0 := by
  refine ⟨⟨by decide, by decide, by decide, by decide, by decide, by decide, by decide⟩, ?_, ?_, ?_, ?_, ?_, ?_⟩
  · intro s hs
    exact absurd hs (Nat.not_lt_zero s)
  · intro s hs
    exact absurd hs (Nat.not_lt_zero s)
  · intro s hs
    exact absurd hs (Nat.not_lt_zero s)
  · intro k _
    exact ⟨Nat.zero_le _, Nat.zero_le _⟩
  · intro h
    exact absurd h (Nat.lt_irrefl 0)
  · intro _
    rfl
theorem tw0 : TW T0 [] := lays_TW wf0 0 (by omega)
theorem inv0 : Inv I0 J0 16 T0 0 T0 [] 0 := by
  have no : ∀ {s : Nat} {P : Prop}, s < T0 0 0 → P := fun {s} {P} hs => absurd hs (Nat.not_lt_zero s)
  have no2 : ∀ {s : Nat} {P : Prop}, s < ([] : List Th).length → P := fun {s} {P} hs => absurd hs (Nat.not_lt_zero s)
  refine ⟨⟨?_, wf0, ⟨rfl, by omega⟩, ?_, wf0, ?_, rfl, rfl, rfl, rfl⟩, Nat.le_refl _, ?_, rfl, Or.inl ⟨rfl, fun _ _ => rfl, rfl, rfl⟩, Or.inl rfl, fun _ _ => rfl⟩
  · exact ⟨⟨rfl, rfl, rfl, rfl, rfl, rfl, rfl, fun h => absurd h (Nat.lt_irrefl 0)⟩, fun s hs => no hs, fun s hs => no hs, fun s hs => no hs, fun k _ => ⟨rfl, rfl⟩⟩
  · exact ⟨⟨rfl, rfl, rfl, rfl, rfl, rfl, rfl, fun h => absurd h (Nat.lt_irrefl 0)⟩, fun s hs => no hs, fun s hs => no hs, fun s hs => no hs, fun k _ => ⟨rfl, rfl⟩⟩
  · exact ⟨⟨rfl, Nat.zero_le _, by decide, tw0, fun h => absurd h (Nat.lt_irrefl 0)⟩, fun s hs => no2 hs, fun s hs => no2 hs, fun s hs => no hs, fun s hs => no hs, rfl⟩
  · exact ⟨⟨rfl, rfl, rfl, rfl, rfl, rfl, rfl, fun h => absurd h (Nat.lt_irrefl 0)⟩, fun s hs => no hs, fun s hs => no hs, fun s hs => no hs, fun k _ => ⟨rfl, rfl⟩⟩
set_option maxHeartbeats 4000000 in
set_option maxRecDepth 100000 in
theorem law_loop {p : Program} {l : Launch} {e : Env} {s : State} {m : MethodId} {below : List Frame} {meth : Method} {c : Code} {D : va_G} {y : Nat → ClassId} {b L : Nat} {xs : Nat → Int32} (hL : L ≤ 2560) (C0 : lw_At p s m meth c b L xs) (hO : Ok D y s) {A : Nat → Prop} (hAe : A = fun q => s.heap.size ≤ q) : ∀ (n i : Nat) (ad : Nat → Nat) (cap : Nat → Nat) (I : Nat → Nat → Int32) (J : Nat → Nat → Int64) (T : Nat → Nat → Nat) (fl : Nat) (TL : Nat → Nat → Nat) (M : List Th) (R : Nat), i ≤ L + 5 → L + 6 ≤ i + n → Inv I J (cap 0) T fl TL M R → ∀ (H : Heap) (locs : List Loc), va_P D vwCl (Wd y ad cap I J) H → va_D A (Wd y ad cap I J) → va_S A s.heap H locs → ∀ (ls : Array Slot), lv_has ls 4 [(0, .ref b), (1, .ref (ad 0)), (2, .ref (ad 55)), (3, .int (nI i))] → W p l e room_1 s m #[Value.ref b] below meth c H locs (87 + (cap 0 - 16)) (24606 + 50 * (cap 0 - 16)) (lw_Z below #[Value.ref b] s) (F0 m 18 ls []) := by
  obtain ⟨hx, hb, hr, hml, hown, -, hX, hbl, hlocks, -⟩ := id C0
  have hown : s.vm.findClass RL = some m.cls := hown
  have hbA : ¬ A b := by rw [hAe]; exact Nat.not_le.mpr hbl
  intro n
  induction n with
  | zero =>
    intro i ad cap I J T fl TL M R h1 h2
    exact absurd h2 (by omega)
  | succ n ih =>
    intro i ad cap I J T fl TL M R hi hin hI H locs hP hD hS ls hl
    obtain ⟨hc1, hc2⟩ := isCap_b hI.2.2.2.2.2.1
    refine lv_iload_n hx hb dL_law_18 rfl (lv_at hl 3 rfl) ?_
    refine lv_aload_n hx hb dL_law_19 rfl (lv_at hl 0 rfl) ?_
    refine va_slen hx hb hX hbl hbA hS dL_law_20 ?_
    refine lv_iconst (v := 5) hx hb dL_law_21 (by decide) ?_
    refine lv_isub hx hb dL_law_22 ?_
    refine lv_topi (fun v22 ev22 => ?_)
    refine lv_icmp_gt (tgt := 701) hx hb dL_law_23 (by decide) (fun c23 => ?_) (fun c23 => ?_)
    · skip
      refine lv_iconst (v := 1) hx hb dL_law_701 (by decide) ?_
      refine va_forget (fun q hq => by have h9 := hS.2.2 q hq; rw [hAe] at h9; exact h9) ?_
      refine W.widen (k := 600000) (n := 7302250) (by omega) (by omega) ?_
      exact lw_ret hx hb hr hlocks dL_law_702
    · skip
      have hi5 : i + 5 ≤ L := law_sub hL (by omega) (by have h9 := c23; rw [ev22] at h9; exact h9)
      refine lv_aload_n hx hb dL_law_26 rfl (lv_at hl 0 rfl) ?_
      refine lv_iload_n hx hb dL_law_27 rfl (lv_at hl 3 rfl) ?_
      refine va_sld hx hb hX hbl hbA hS (vp_in_nI (by omega) (by omega)) dL_law_28 ?_
      rw [nI_clamp (n := i) (by omega)]
      refine lv_bipush (v := 31) hx hb dL_law_29 (by decide) ?_
      refine lv_iand hx hb dL_law_31 ?_
      refine lv_topi (fun v31 ev31 => ?_)
      by_cases hsw : v31.toInt < 0 ∨ 16 < v31.toInt
      · skip
        refine lv_tableOut (tgt := 695) hx hb dL_law_32 hsw (by decide) ?_
        refine lv_iinc (v := nI (i + 5)) (lv' := [(3, .int (nI (i + 5))), (0, .ref b), (1, .ref (ad 0)), (2, .ref (ad 55))]) hx hb dL_law_695 hl (k := 3) rfl (nI_add i 5) (by decide) rfl (fun ls hl => ?_)
        refine lv_goto (tgt := 18) hx hb dL_law_698 (by decide) ?_
        exact ih (i + 5) ad cap I J T fl TL M R (by omega) (by omega) hI _ _ hP hD hS ls (by exact lv_sub hl [1, 2, 3, 0] rfl)
      · skip
        have hsw2 : v31 = 0 ∨ v31 = 1 ∨ v31 = 2 ∨ v31 = 3 ∨ v31 = 4 ∨ v31 = 5 ∨ v31 = 6 ∨ v31 = 7 ∨ v31 = 8 ∨ v31 = 9 ∨ v31 = 10 ∨ v31 = 11 ∨ v31 = 12 ∨ v31 = 13 ∨ v31 = 14 ∨ v31 = 15 ∨ v31 = 16 := by
          have h1 : v31.toInt = 0 ∨ v31.toInt = 1 ∨ v31.toInt = 2 ∨ v31.toInt = 3 ∨ v31.toInt = 4 ∨ v31.toInt = 5 ∨ v31.toInt = 6 ∨ v31.toInt = 7 ∨ v31.toInt = 8 ∨ v31.toInt = 9 ∨ v31.toInt = 10 ∨ v31.toInt = 11 ∨ v31.toInt = 12 ∨ v31.toInt = 13 ∨ v31.toInt = 14 ∨ v31.toInt = 15 ∨ v31.toInt = 16 := by omega
          rcases h1 with h1 | h1 | h1 | h1 | h1 | h1 | h1 | h1 | h1 | h1 | h1 | h1 | h1 | h1 | h1 | h1 | h1
          · exact Or.inl (Int32.toInt_inj.mp h1)
          · exact Or.inr (Or.inl (Int32.toInt_inj.mp h1))
          · exact Or.inr (Or.inr (Or.inl (Int32.toInt_inj.mp h1)))
          · exact Or.inr (Or.inr (Or.inr (Or.inl (Int32.toInt_inj.mp h1))))
          · exact Or.inr (Or.inr (Or.inr (Or.inr (Or.inl (Int32.toInt_inj.mp h1)))))
          · exact Or.inr (Or.inr (Or.inr (Or.inr (Or.inr (Or.inl (Int32.toInt_inj.mp h1))))))
          · exact Or.inr (Or.inr (Or.inr (Or.inr (Or.inr (Or.inr (Or.inl (Int32.toInt_inj.mp h1)))))))
          · exact Or.inr (Or.inr (Or.inr (Or.inr (Or.inr (Or.inr (Or.inr (Or.inl (Int32.toInt_inj.mp h1))))))))
          · exact Or.inr (Or.inr (Or.inr (Or.inr (Or.inr (Or.inr (Or.inr (Or.inr (Or.inl (Int32.toInt_inj.mp h1)))))))))
          · exact Or.inr (Or.inr (Or.inr (Or.inr (Or.inr (Or.inr (Or.inr (Or.inr (Or.inr (Or.inl (Int32.toInt_inj.mp h1))))))))))
          · exact Or.inr (Or.inr (Or.inr (Or.inr (Or.inr (Or.inr (Or.inr (Or.inr (Or.inr (Or.inr (Or.inl (Int32.toInt_inj.mp h1)))))))))))
          · exact Or.inr (Or.inr (Or.inr (Or.inr (Or.inr (Or.inr (Or.inr (Or.inr (Or.inr (Or.inr (Or.inr (Or.inl (Int32.toInt_inj.mp h1))))))))))))
          · exact Or.inr (Or.inr (Or.inr (Or.inr (Or.inr (Or.inr (Or.inr (Or.inr (Or.inr (Or.inr (Or.inr (Or.inr (Or.inl (Int32.toInt_inj.mp h1)))))))))))))
          · exact Or.inr (Or.inr (Or.inr (Or.inr (Or.inr (Or.inr (Or.inr (Or.inr (Or.inr (Or.inr (Or.inr (Or.inr (Or.inr (Or.inl (Int32.toInt_inj.mp h1))))))))))))))
          · exact Or.inr (Or.inr (Or.inr (Or.inr (Or.inr (Or.inr (Or.inr (Or.inr (Or.inr (Or.inr (Or.inr (Or.inr (Or.inr (Or.inr (Or.inl (Int32.toInt_inj.mp h1)))))))))))))))
          · exact Or.inr (Or.inr (Or.inr (Or.inr (Or.inr (Or.inr (Or.inr (Or.inr (Or.inr (Or.inr (Or.inr (Or.inr (Or.inr (Or.inr (Or.inr (Or.inl (Int32.toInt_inj.mp h1))))))))))))))))
          · exact Or.inr (Or.inr (Or.inr (Or.inr (Or.inr (Or.inr (Or.inr (Or.inr (Or.inr (Or.inr (Or.inr (Or.inr (Or.inr (Or.inr (Or.inr (Or.inr (Int32.toInt_inj.mp h1))))))))))))))))
        rcases hsw2 with hsw3 | hsw3 | hsw3 | hsw3 | hsw3 | hsw3 | hsw3 | hsw3 | hsw3 | hsw3 | hsw3 | hsw3 | hsw3 | hsw3 | hsw3 | hsw3 | hsw3
        · skip
          subst hsw3
          refine lv_tableIn (off := 84) (tgt := 116) hx hb dL_law_32 (by decide) (by decide) rfl (by decide) ?_
          refine law_0 hL C0 hO hAe hi5 ad cap I J T fl TL M R hI hP hD hS (by exact lv_sub hl [0, 1, 2, 3] rfl) (fun cap I J T fl TL M R H locs ls hI hP hD hS hl => ?_)
          refine lv_iinc (v := nI (i + 5)) (lv' := [(3, .int (nI (i + 5))), (0, .ref b), (1, .ref (ad 0)), (2, .ref (ad 55))]) hx hb dL_law_695 hl (k := 3) rfl (nI_add i 5) (by decide) rfl (fun ls hl => ?_)
          refine lv_goto (tgt := 18) hx hb dL_law_698 (by decide) ?_
          exact ih (i + 5) ad cap I J T fl TL M R (by omega) (by omega) hI _ _ hP hD hS ls (by exact lv_sub hl [1, 2, 3, 0] rfl)
        · skip
          subst hsw3
          refine lv_tableIn (off := 143) (tgt := 175) hx hb dL_law_32 (by decide) (by decide) rfl (by decide) ?_
          refine law_1 hL C0 hO hAe hi5 ad cap I J T fl TL M R hI hP hD hS (by exact lv_sub hl [0, 1, 2, 3] rfl) (fun cap I J T fl TL M R H locs ls hI hP hD hS hl => ?_)
          refine lv_iinc (v := nI (i + 5)) (lv' := [(3, .int (nI (i + 5))), (0, .ref b), (1, .ref (ad 0)), (2, .ref (ad 55))]) hx hb dL_law_695 hl (k := 3) rfl (nI_add i 5) (by decide) rfl (fun ls hl => ?_)
          refine lv_goto (tgt := 18) hx hb dL_law_698 (by decide) ?_
          exact ih (i + 5) ad cap I J T fl TL M R (by omega) (by omega) hI _ _ hP hD hS ls (by exact lv_sub hl [1, 2, 3, 0] rfl)
        · skip
          subst hsw3
          refine lv_tableIn (off := 176) (tgt := 208) hx hb dL_law_32 (by decide) (by decide) rfl (by decide) ?_
          refine law_2 hL C0 hO hAe hi5 ad cap I J T fl TL M R hI hP hD hS (by exact lv_sub hl [0, 1, 2, 3] rfl) (fun cap I J T fl TL M R H locs ls hI hP hD hS hl => ?_)
          refine lv_iinc (v := nI (i + 5)) (lv' := [(3, .int (nI (i + 5))), (0, .ref b), (1, .ref (ad 0)), (2, .ref (ad 55))]) hx hb dL_law_695 hl (k := 3) rfl (nI_add i 5) (by decide) rfl (fun ls hl => ?_)
          refine lv_goto (tgt := 18) hx hb dL_law_698 (by decide) ?_
          exact ih (i + 5) ad cap I J T fl TL M R (by omega) (by omega) hI _ _ hP hD hS ls (by exact lv_sub hl [1, 2, 3, 0] rfl)
        · skip
          subst hsw3
          refine lv_tableIn (off := 219) (tgt := 251) hx hb dL_law_32 (by decide) (by decide) rfl (by decide) ?_
          refine law_3 hL C0 hO hAe hi5 ad cap I J T fl TL M R hI hP hD hS (by exact lv_sub hl [0, 1, 2, 3] rfl) (fun cap I J T fl TL M R H locs ls hI hP hD hS hl => ?_)
          refine lv_iinc (v := nI (i + 5)) (lv' := [(3, .int (nI (i + 5))), (0, .ref b), (1, .ref (ad 0)), (2, .ref (ad 55))]) hx hb dL_law_695 hl (k := 3) rfl (nI_add i 5) (by decide) rfl (fun ls hl => ?_)
          refine lv_goto (tgt := 18) hx hb dL_law_698 (by decide) ?_
          exact ih (i + 5) ad cap I J T fl TL M R (by omega) (by omega) hI _ _ hP hD hS ls (by exact lv_sub hl [1, 2, 3, 0] rfl)
        · skip
          subst hsw3
          refine lv_tableIn (off := 272) (tgt := 304) hx hb dL_law_32 (by decide) (by decide) rfl (by decide) ?_
          refine law_4 hL C0 hO hAe hi5 ad cap I J T fl TL M R hI hP hD hS (by exact lv_sub hl [0, 1, 2, 3] rfl) (fun cap I J T fl TL M R H locs ls hI hP hD hS hl => ?_)
          refine lv_iinc (v := nI (i + 5)) (lv' := [(3, .int (nI (i + 5))), (0, .ref b), (1, .ref (ad 0)), (2, .ref (ad 55))]) hx hb dL_law_695 hl (k := 3) rfl (nI_add i 5) (by decide) rfl (fun ls hl => ?_)
          refine lv_goto (tgt := 18) hx hb dL_law_698 (by decide) ?_
          exact ih (i + 5) ad cap I J T fl TL M R (by omega) (by omega) hI _ _ hP hD hS ls (by exact lv_sub hl [1, 2, 3, 0] rfl)
        · skip
          subst hsw3
          refine lv_tableIn (off := 315) (tgt := 347) hx hb dL_law_32 (by decide) (by decide) rfl (by decide) ?_
          refine law_5 hL C0 hO hAe hi5 ad cap I J T fl TL M R hI hP hD hS (by exact lv_sub hl [0, 1, 2, 3] rfl) (fun cap I J T fl TL M R H locs ls hI hP hD hS hl => ?_)
          refine lv_iinc (v := nI (i + 5)) (lv' := [(3, .int (nI (i + 5))), (0, .ref b), (1, .ref (ad 0)), (2, .ref (ad 55))]) hx hb dL_law_695 hl (k := 3) rfl (nI_add i 5) (by decide) rfl (fun ls hl => ?_)
          refine lv_goto (tgt := 18) hx hb dL_law_698 (by decide) ?_
          exact ih (i + 5) ad cap I J T fl TL M R (by omega) (by omega) hI _ _ hP hD hS ls (by exact lv_sub hl [1, 2, 3, 0] rfl)
        · skip
          subst hsw3
          refine lv_tableIn (off := 338) (tgt := 370) hx hb dL_law_32 (by decide) (by decide) rfl (by decide) ?_
          refine law_6 hL C0 hO hAe hi5 ad cap I J T fl TL M R hI hP hD hS (by exact lv_sub hl [0, 1, 2, 3] rfl) (fun cap I J T fl TL M R H locs ls hI hP hD hS hl => ?_)
          refine lv_iinc (v := nI (i + 5)) (lv' := [(3, .int (nI (i + 5))), (0, .ref b), (1, .ref (ad 0)), (2, .ref (ad 55))]) hx hb dL_law_695 hl (k := 3) rfl (nI_add i 5) (by decide) rfl (fun ls hl => ?_)
          refine lv_goto (tgt := 18) hx hb dL_law_698 (by decide) ?_
          exact ih (i + 5) ad cap I J T fl TL M R (by omega) (by omega) hI _ _ hP hD hS ls (by exact lv_sub hl [1, 2, 3, 0] rfl)
        · skip
          subst hsw3
          refine lv_tableIn (off := 371) (tgt := 403) hx hb dL_law_32 (by decide) (by decide) rfl (by decide) ?_
          refine law_7 hL C0 hO hAe hi5 ad cap I J T fl TL M R hI hP hD hS (by exact lv_sub hl [0, 1, 2, 3] rfl) (fun cap I J T fl TL M R H locs ls hI hP hD hS hl => ?_)
          refine lv_iinc (v := nI (i + 5)) (lv' := [(3, .int (nI (i + 5))), (0, .ref b), (1, .ref (ad 0)), (2, .ref (ad 55))]) hx hb dL_law_695 hl (k := 3) rfl (nI_add i 5) (by decide) rfl (fun ls hl => ?_)
          refine lv_goto (tgt := 18) hx hb dL_law_698 (by decide) ?_
          exact ih (i + 5) ad cap I J T fl TL M R (by omega) (by omega) hI _ _ hP hD hS ls (by exact lv_sub hl [1, 2, 3, 0] rfl)
        · skip
          subst hsw3
          refine lv_tableIn (off := 404) (tgt := 436) hx hb dL_law_32 (by decide) (by decide) rfl (by decide) ?_
          refine law_8 hL C0 hO hAe hi5 ad cap I J T fl TL M R hI hP hD hS (by exact lv_sub hl [0, 1, 2, 3] rfl) (fun cap I J T fl TL M R H locs ls hI hP hD hS hl => ?_)
          refine lv_iinc (v := nI (i + 5)) (lv' := [(3, .int (nI (i + 5))), (0, .ref b), (1, .ref (ad 0)), (2, .ref (ad 55))]) hx hb dL_law_695 hl (k := 3) rfl (nI_add i 5) (by decide) rfl (fun ls hl => ?_)
          refine lv_goto (tgt := 18) hx hb dL_law_698 (by decide) ?_
          exact ih (i + 5) ad cap I J T fl TL M R (by omega) (by omega) hI _ _ hP hD hS ls (by exact lv_sub hl [1, 2, 3, 0] rfl)
        · skip
          subst hsw3
          refine lv_tableIn (off := 417) (tgt := 449) hx hb dL_law_32 (by decide) (by decide) rfl (by decide) ?_
          refine law_9 hL C0 hO hAe hi5 ad cap I J T fl TL M R hI hP hD hS (by exact lv_sub hl [0, 1, 2, 3] rfl) (fun cap I J T fl TL M R H locs ls hI hP hD hS hl => ?_)
          refine lv_iinc (v := nI (i + 5)) (lv' := [(3, .int (nI (i + 5))), (0, .ref b), (1, .ref (ad 0)), (2, .ref (ad 55))]) hx hb dL_law_695 hl (k := 3) rfl (nI_add i 5) (by decide) rfl (fun ls hl => ?_)
          refine lv_goto (tgt := 18) hx hb dL_law_698 (by decide) ?_
          exact ih (i + 5) ad cap I J T fl TL M R (by omega) (by omega) hI _ _ hP hD hS ls (by exact lv_sub hl [1, 2, 3, 0] rfl)
        · skip
          subst hsw3
          refine lv_tableIn (off := 440) (tgt := 472) hx hb dL_law_32 (by decide) (by decide) rfl (by decide) ?_
          refine law_10 hL C0 hO hAe hi5 ad cap I J T fl TL M R hI hP hD hS (by exact lv_sub hl [0, 1, 2, 3] rfl) (fun cap I J T fl TL M R H locs ls hI hP hD hS hl => ?_)
          refine lv_iinc (v := nI (i + 5)) (lv' := [(3, .int (nI (i + 5))), (0, .ref b), (1, .ref (ad 0)), (2, .ref (ad 55))]) hx hb dL_law_695 hl (k := 3) rfl (nI_add i 5) (by decide) rfl (fun ls hl => ?_)
          refine lv_goto (tgt := 18) hx hb dL_law_698 (by decide) ?_
          exact ih (i + 5) ad cap I J T fl TL M R (by omega) (by omega) hI _ _ hP hD hS ls (by exact lv_sub hl [1, 2, 3, 0] rfl)
        · skip
          subst hsw3
          refine lv_tableIn (off := 474) (tgt := 506) hx hb dL_law_32 (by decide) (by decide) rfl (by decide) ?_
          refine law_11 hL C0 hO hAe hi5 ad cap I J T fl TL M R hI hP hD hS (by exact lv_sub hl [0, 1, 2, 3] rfl) (fun cap I J T fl TL M R H locs ls hI hP hD hS hl => ?_)
          refine lv_iinc (v := nI (i + 5)) (lv' := [(3, .int (nI (i + 5))), (0, .ref b), (1, .ref (ad 0)), (2, .ref (ad 55))]) hx hb dL_law_695 hl (k := 3) rfl (nI_add i 5) (by decide) rfl (fun ls hl => ?_)
          refine lv_goto (tgt := 18) hx hb dL_law_698 (by decide) ?_
          exact ih (i + 5) ad cap I J T fl TL M R (by omega) (by omega) hI _ _ hP hD hS ls (by exact lv_sub hl [1, 2, 3, 0] rfl)
        · skip
          subst hsw3
          refine lv_tableIn (off := 507) (tgt := 539) hx hb dL_law_32 (by decide) (by decide) rfl (by decide) ?_
          refine law_12 hL C0 hO hAe hi5 ad cap I J T fl TL M R hI hP hD hS (by exact lv_sub hl [0, 1, 2, 3] rfl) (fun cap I J T fl TL M R H locs ls hI hP hD hS hl => ?_)
          refine lv_iinc (v := nI (i + 5)) (lv' := [(3, .int (nI (i + 5))), (0, .ref b), (1, .ref (ad 0)), (2, .ref (ad 55))]) hx hb dL_law_695 hl (k := 3) rfl (nI_add i 5) (by decide) rfl (fun ls hl => ?_)
          refine lv_goto (tgt := 18) hx hb dL_law_698 (by decide) ?_
          exact ih (i + 5) ad cap I J T fl TL M R (by omega) (by omega) hI _ _ hP hD hS ls (by exact lv_sub hl [1, 2, 3, 0] rfl)
        · skip
          subst hsw3
          refine lv_tableIn (off := 540) (tgt := 572) hx hb dL_law_32 (by decide) (by decide) rfl (by decide) ?_
          refine law_13 hL C0 hO hAe hi5 ad cap I J T fl TL M R hI hP hD hS (by exact lv_sub hl [0, 1, 2, 3] rfl) (fun cap I J T fl TL M R H locs ls hI hP hD hS hl => ?_)
          refine lv_iinc (v := nI (i + 5)) (lv' := [(3, .int (nI (i + 5))), (0, .ref b), (1, .ref (ad 0)), (2, .ref (ad 55))]) hx hb dL_law_695 hl (k := 3) rfl (nI_add i 5) (by decide) rfl (fun ls hl => ?_)
          refine lv_goto (tgt := 18) hx hb dL_law_698 (by decide) ?_
          exact ih (i + 5) ad cap I J T fl TL M R (by omega) (by omega) hI _ _ hP hD hS ls (by exact lv_sub hl [1, 2, 3, 0] rfl)
        · skip
          subst hsw3
          refine lv_tableIn (off := 573) (tgt := 605) hx hb dL_law_32 (by decide) (by decide) rfl (by decide) ?_
          refine law_14 hL C0 hO hAe hi5 ad cap I J T fl TL M R hI hP hD hS (by exact lv_sub hl [0, 1, 2, 3] rfl) (fun cap I J T fl TL M R H locs ls hI hP hD hS hl => ?_)
          refine lv_iinc (v := nI (i + 5)) (lv' := [(3, .int (nI (i + 5))), (0, .ref b), (1, .ref (ad 0)), (2, .ref (ad 55))]) hx hb dL_law_695 hl (k := 3) rfl (nI_add i 5) (by decide) rfl (fun ls hl => ?_)
          refine lv_goto (tgt := 18) hx hb dL_law_698 (by decide) ?_
          exact ih (i + 5) ad cap I J T fl TL M R (by omega) (by omega) hI _ _ hP hD hS ls (by exact lv_sub hl [1, 2, 3, 0] rfl)
        · skip
          subst hsw3
          refine lv_tableIn (off := 626) (tgt := 658) hx hb dL_law_32 (by decide) (by decide) rfl (by decide) ?_
          refine law_15 hL C0 hO hAe hi5 ad cap I J T fl TL M R hI hP hD hS (by exact lv_sub hl [0, 1, 2, 3] rfl) (fun cap I J T fl TL M R H locs ls hI hP hD hS hl => ?_)
          refine lv_iinc (v := nI (i + 5)) (lv' := [(3, .int (nI (i + 5))), (0, .ref b), (1, .ref (ad 0)), (2, .ref (ad 55))]) hx hb dL_law_695 hl (k := 3) rfl (nI_add i 5) (by decide) rfl (fun ls hl => ?_)
          refine lv_goto (tgt := 18) hx hb dL_law_698 (by decide) ?_
          exact ih (i + 5) ad cap I J T fl TL M R (by omega) (by omega) hI _ _ hP hD hS ls (by exact lv_sub hl [1, 2, 3, 0] rfl)
        · skip
          subst hsw3
          refine lv_tableIn (off := 650) (tgt := 682) hx hb dL_law_32 (by decide) (by decide) rfl (by decide) ?_
          refine law_16 hL C0 hO hAe hi5 ad cap I J T fl TL M R hI hP hD hS (by exact lv_sub hl [0, 1, 2, 3] rfl) (fun cap I J T fl TL M R H locs ls hI hP hD hS hl => ?_)
          refine lv_iinc (v := nI (i + 5)) (lv' := [(3, .int (nI (i + 5))), (0, .ref b), (1, .ref (ad 0)), (2, .ref (ad 55))]) hx hb dL_law_695 hl (k := 3) rfl (nI_add i 5) (by decide) rfl (fun ls hl => ?_)
          refine lv_goto (tgt := 18) hx hb dL_law_698 (by decide) ?_
          exact ih (i + 5) ad cap I J T fl TL M R (by omega) (by omega) hI _ _ hP hD hS ls (by exact lv_sub hl [1, 2, 3, 0] rfl)
set_option maxHeartbeats 4000000 in
set_option maxRecDepth 100000 in
theorem whole_start {p : Program} {e : Env} {s : State} {m : MethodId} {below : List Frame} {meth : Method} {c : Code} (l : Launch) {b L : Nat} {xs : Nat → Int32} (hL : L ≤ 2560) (C0 : lw_At p s m meth c b L xs) : W p l e room_1 s m #[Value.ref b] below meth c s.heap [] 0 0 (lw_Z below #[Value.ref b] s) (entryFrame m ([Value.ref b] : List Value).toArray 4) := by
  obtain ⟨hx, hb, hr, hml, hown, hts0, hX, hbl, hlocks, hgv⟩ := id C0
  have hown : s.vm.findClass RL = some m.cls := hown
  have hts : ∀ w ∈ lw_E, w.before #[Value.ref b] s = true := fun w h => hts0 w (List.mem_filter.mp h).1
  obtain ⟨c0, iS0, hKn0⟩ := u_known (C := RX0) (T := TX0) (N := 4) (n := 4) hts0 inX0 (hts _ ins_X0)
  obtain ⟨c1, iS1, hKn1⟩ := u_known (C := RX1) (T := TX1) (N := 5) (n := 5) hts0 inX1 (hts _ ins_X1)
  obtain ⟨c2, iS2, hKn2⟩ := u_known (C := RX2) (T := TX2) (N := 2) (n := 2) hts0 inX2 (hts _ ins_X2)
  obtain ⟨c3, iS3, hKn3⟩ := u_known (C := RX3) (T := TX3) (N := 3) (n := 3) hts0 inX3 (hts _ ins_X3)
  obtain ⟨c4, iS4, hKn4⟩ := u_known (C := RX4) (T := TX4) (N := 9) (n := 9) hts0 inX4 (hts _ ins_X4)
  obtain ⟨c5, iS5, hKn5⟩ := u_known (C := RX5) (T := TX5) (N := 5) (n := 5) hts0 inX5 (hts _ ins_X5)
  obtain ⟨c6, iS6, hKn6⟩ := u_known (C := RX6) (T := TX6) (N := 11) (n := 11) hts0 inX6 (hts _ ins_X6)
  obtain ⟨c7, iS7, hKn7⟩ := u_known (C := RX7) (T := TX7) (N := 8) (n := 8) hts0 inX7 (hts _ ins_X7)
  obtain ⟨c8, iS8, hKn8⟩ := u_known (C := RX8) (T := TX8) (N := 5) (n := 5) hts0 inX8 (hts _ ins_X8)
  obtain ⟨c9, iS9, hKn9⟩ := u_known (C := RX9) (T := TX9) (N := 51) (n := 51) hts0 inX9 (hts _ ins_X9)
  obtain ⟨y0, hy0, hz0⟩ := arr_known (hts _ ac_int)
  obtain ⟨y1, hy1, hz1⟩ := arr_known (hts _ ac_long)
  obtain ⟨y2, hy2, hz2⟩ := arr_known (hts _ ac_boolean)
  obtain ⟨D, hKc⟩ : ∃ D : va_G, ∀ (k : Nat) (q : vw_C), vwCl[k]? = some q → u_Kn s q.1 q.2.1 q.2.2 (D.1 k) (D.2 k) := by
    refine ⟨(fun k => [c0, c1, c2, c3, c4, c5, c6, c7, c8, c9].getD k c9, fun k => [iS0, iS1, iS2, iS3, iS4, iS5, iS6, iS7, iS8, iS9].getD k iS9), ?_⟩
    intro k q hq
    match k, hq with
    | 0, hq => cases hq; exact hKn0
    | 1, hq => cases hq; exact hKn1
    | 2, hq => cases hq; exact hKn2
    | 3, hq => cases hq; exact hKn3
    | 4, hq => cases hq; exact hKn4
    | 5, hq => cases hq; exact hKn5
    | 6, hq => cases hq; exact hKn6
    | 7, hq => cases hq; exact hKn7
    | 8, hq => cases hq; exact hKn8
    | 9, hq => cases hq; exact hKn9
    | k + 10, hq => simp [vwCl] at hq
  obtain ⟨y, hy⟩ : ∃ y : Nat → ClassId, y 0 = y0 ∧ y 1 = y1 ∧ y 2 = y2 := ⟨fun k => [y0, y1, y2].getD k y0, rfl, rfl, rfl⟩
  obtain ⟨rfl, rfl, rfl⟩ := hy
  have hK : va_K D vwCl (tysY y) s := ⟨hKc, fun k q hq => by
    match k, hq with
    | 0, hq => cases hq; exact ⟨hy0, hz0⟩
    | 1, hq => cases hq; exact ⟨hy1, hz1⟩
    | 2, hq => cases hq; exact ⟨hy2, hz2⟩
    | k + 3, hq => simp [tysY] at hq⟩
  have hO : Ok D y s := ⟨hK, EnvOk.of hts (State.WarmedH.refl s)⟩
  obtain ⟨A, hAe⟩ : ∃ A : Nat → Prop, A = fun q => s.heap.size ≤ q := ⟨_, rfl⟩
  have hA : ∀ q, s.heap.size ≤ q → A q := fun q h => by rw [hAe]; exact h
  have hS : va_S A s.heap s.heap [] := va_S.rf
  have hP : va_P D vwCl [] s.heap := fun k q h => by simp at h
  have hD : va_D A [] := ⟨fun i j p q h => by simp at h, fun k q h => by simp at h⟩
  have hl := lv_entry ([.ref b]) (n := 4) (Nat.le_of_ble_eq_true rfl)
  rw [lg_entry_eq]
  generalize (lg_sl ([.ref b]) ++ List.replicate (4 - (lg_sl ([.ref b])).length) Slot.unset).toArray = ls at hl ⊢
  have hl : lv_has ls 4 [(0, .ref b)] := hl
  refine va_new (ci := 8) (fs := Z8) (C := RX8) (T := TX8) (N := 5) hx hb hts jnX8 tyX8 tyX8_ok hown (hts _ cl_L_7) (hts _ ins_X8) (hts _ ini_X8) hK hP hD hS hA rfl zf8 (Nat.le_of_ble_eq_true rfl) (Nat.le_of_ble_eq_true rfl) dL_law_0 (fun q0 H hP hD hS => ?_)
  have hP : va_P D vwCl [(q0, .inr (8, [.null, .null, .null, .null, .int 0]))] H := hP
  have hD : va_D A [(q0, .inr (8, [.null, .null, .null, .null, .int 0]))] := hD
  refine lv_dup hx hb dL_law_3 rfl ?_
  have hPc := hP.sub (ws' := [(q0, .inr (8, Z8))]) [0] rfl
  have hDc := hD.sub (ws' := [(q0, .inr (8, Z8))]) [0] (by decide) rfl
  have hFc := va_free (wc := [(q0, .inr (8, Z8))]) hD hS hA [0] rfl
  refine va_callv (run_i (As := []) (rest := [.ref q0]) (b := q0) hx hb hml hown hO.2 (c_X8_init l D y q0 H.size) k_X8_init ml_L_9 ⟨rfl, rfl⟩ ⟨Nat.le_of_ble_eq_true rfl, Nat.le_of_ble_eq_true rfl⟩ (pre_SW hO hPc hDc) rfl hl.1 rfl (Nat.le_of_ble_eq_true rfl) dL_law_4 ⟨Nat.le_of_ble_eq_true rfl, Nat.le_of_ble_eq_true rfl⟩) hS (fun q _ h => hFc q h) hFc (fun u4 t H1 locs ht _ _ hB _ hk1 hS => ?_)
  obtain ⟨hP1, hD1⟩ := hB
  rw [ht] at hP1
  obtain ⟨hP, hD⟩ := va_join (wr := []) hP hD [0] [] rfl rfl (by decide) (by decide) hk1 hFc hP1 hD1
  clear hP1 hD1 hPc hDc hFc hk1 ht
  generalize H1 = H at hP hS ⊢
  have hP : va_P D vwCl [(q0, .inr (8, [.ref (u4 1), .ref (u4 17), .ref (u4 50), .ref (u4 54), .int 0])), (u4 1, .inr (7, [.ref (u4 2), .ref (u4 6), .ref (u4 9), .ref (u4 12), .int 0, .int 0, .int 1, .int (-1)])), (u4 2, .inr (5, [.int 0, .int 0, .ref (u4 3), .ref (u4 4), .ref (u4 5)])), (u4 3, .inl (y 0, 40, .inl (fun _ => 0))), (u4 4, .inl (y 0, 40, .inl (fun _ => 0))), (u4 5, .inl (y 2, 40, .inl (fun _ => 0))), (u4 6, .inr (3, [.int 0, .ref (u4 7), .ref (u4 8)])), (u4 7, .inl (y 0, 60, .inl (fun _ => 0))), (u4 8, .inl (y 0, 60, .inl (fun _ => 0))), (u4 9, .inr (2, [.ref (u4 10), .ref (u4 11)])), (u4 10, .inl (y 0, 8, .inl (fun _ => 0))), (u4 11, .inl (y 0, 8, .inl (fun _ => 0))), (u4 12, .inr (1, [.int 0, .ref (u4 13), .ref (u4 14), .ref (u4 15), .ref (u4 16)])), (u4 13, .inl (y 0, 200, .inl (fun _ => 0))), (u4 14, .inl (y 0, 200, .inl (fun _ => 0))), (u4 15, .inl (y 0, 200, .inl (fun _ => 0))), (u4 16, .inl (y 0, 200, .inl (fun _ => 0))), (u4 17, .inr (4, [.ref (u4 18), .ref (u4 34), .ref (u4 38), .ref (u4 48), .ref (u4 49), .int 0, .int 0, .int 0, .int 0])), (u4 18, .inr (7, [.ref (u4 19), .ref (u4 23), .ref (u4 26), .ref (u4 29), .int 0, .int 0, .int 1, .int (-1)])), (u4 19, .inr (5, [.int 0, .int 0, .ref (u4 20), .ref (u4 21), .ref (u4 22)])), (u4 20, .inl (y 0, 40, .inl (fun _ => 0))), (u4 21, .inl (y 0, 40, .inl (fun _ => 0))), (u4 22, .inl (y 2, 40, .inl (fun _ => 0))), (u4 23, .inr (3, [.int 0, .ref (u4 24), .ref (u4 25)])), (u4 24, .inl (y 0, 60, .inl (fun _ => 0))), (u4 25, .inl (y 0, 60, .inl (fun _ => 0))), (u4 26, .inr (2, [.ref (u4 27), .ref (u4 28)])), (u4 27, .inl (y 0, 8, .inl (fun _ => 0))), (u4 28, .inl (y 0, 8, .inl (fun _ => 0))), (u4 29, .inr (1, [.int 0, .ref (u4 30), .ref (u4 31), .ref (u4 32), .ref (u4 33)])), (u4 30, .inl (y 0, 200, .inl (fun _ => 0))), (u4 31, .inl (y 0, 200, .inl (fun _ => 0))), (u4 32, .inl (y 0, 200, .inl (fun _ => 0))), (u4 33, .inl (y 0, 200, .inl (fun _ => 0))), (u4 34, .inr (0, [.ref (u4 35), .ref (u4 36), .ref (u4 37), .long 0])), (u4 35, .inl (y 1, 40, .inr (.inl (fun _ => 0)))), (u4 36, .inl (y 1, 40, .inr (.inl (fun _ => 0)))), (u4 37, .inl (y 1, 40, .inr (.inl (fun _ => 0)))), (u4 38, .inr (6, [.int 0, .int 0, .ref (u4 39), .ref (u4 40), .ref (u4 41), .ref (u4 42), .ref (u4 43), .ref (u4 44), .ref (u4 45), .ref (u4 46), .ref (u4 47)])), (u4 39, .inl (y 0, 16, .inl (fun _ => 0))), (u4 40, .inl (y 0, 16, .inl (fun _ => 0))), (u4 41, .inl (y 0, 16, .inl (fun _ => 0))), (u4 42, .inl (y 0, 16, .inl (fun _ => 0))), (u4 43, .inl (y 0, 16, .inl (fun _ => 0))), (u4 44, .inl (y 0, 16, .inl (fun _ => 0))), (u4 45, .inl (y 1, 16, .inr (.inl (fun _ => 0)))), (u4 46, .inl (y 0, 40, .inl (fun _ => 0))), (u4 47, .inl (y 0, 2400, .inl (fun _ => 0))), (u4 48, .inl (y 0, 200, .inl (fun _ => 0))), (u4 49, .inl (y 0, 200, .inl (fun _ => 0))), (u4 50, .inr (0, [.ref (u4 51), .ref (u4 52), .ref (u4 53), .long 0])), (u4 51, .inl (y 1, 40, .inr (.inl (fun _ => 0)))), (u4 52, .inl (y 1, 40, .inr (.inl (fun _ => 0)))), (u4 53, .inl (y 1, 40, .inr (.inl (fun _ => 0)))), (u4 54, .inl (y 0, 40, .inl (fun _ => 0)))] H := hP
  have hD : va_D A [(q0, .inr (8, [.ref (u4 1), .ref (u4 17), .ref (u4 50), .ref (u4 54), .int 0])), (u4 1, .inr (7, [.ref (u4 2), .ref (u4 6), .ref (u4 9), .ref (u4 12), .int 0, .int 0, .int 1, .int (-1)])), (u4 2, .inr (5, [.int 0, .int 0, .ref (u4 3), .ref (u4 4), .ref (u4 5)])), (u4 3, .inl (y 0, 40, .inl (fun _ => 0))), (u4 4, .inl (y 0, 40, .inl (fun _ => 0))), (u4 5, .inl (y 2, 40, .inl (fun _ => 0))), (u4 6, .inr (3, [.int 0, .ref (u4 7), .ref (u4 8)])), (u4 7, .inl (y 0, 60, .inl (fun _ => 0))), (u4 8, .inl (y 0, 60, .inl (fun _ => 0))), (u4 9, .inr (2, [.ref (u4 10), .ref (u4 11)])), (u4 10, .inl (y 0, 8, .inl (fun _ => 0))), (u4 11, .inl (y 0, 8, .inl (fun _ => 0))), (u4 12, .inr (1, [.int 0, .ref (u4 13), .ref (u4 14), .ref (u4 15), .ref (u4 16)])), (u4 13, .inl (y 0, 200, .inl (fun _ => 0))), (u4 14, .inl (y 0, 200, .inl (fun _ => 0))), (u4 15, .inl (y 0, 200, .inl (fun _ => 0))), (u4 16, .inl (y 0, 200, .inl (fun _ => 0))), (u4 17, .inr (4, [.ref (u4 18), .ref (u4 34), .ref (u4 38), .ref (u4 48), .ref (u4 49), .int 0, .int 0, .int 0, .int 0])), (u4 18, .inr (7, [.ref (u4 19), .ref (u4 23), .ref (u4 26), .ref (u4 29), .int 0, .int 0, .int 1, .int (-1)])), (u4 19, .inr (5, [.int 0, .int 0, .ref (u4 20), .ref (u4 21), .ref (u4 22)])), (u4 20, .inl (y 0, 40, .inl (fun _ => 0))), (u4 21, .inl (y 0, 40, .inl (fun _ => 0))), (u4 22, .inl (y 2, 40, .inl (fun _ => 0))), (u4 23, .inr (3, [.int 0, .ref (u4 24), .ref (u4 25)])), (u4 24, .inl (y 0, 60, .inl (fun _ => 0))), (u4 25, .inl (y 0, 60, .inl (fun _ => 0))), (u4 26, .inr (2, [.ref (u4 27), .ref (u4 28)])), (u4 27, .inl (y 0, 8, .inl (fun _ => 0))), (u4 28, .inl (y 0, 8, .inl (fun _ => 0))), (u4 29, .inr (1, [.int 0, .ref (u4 30), .ref (u4 31), .ref (u4 32), .ref (u4 33)])), (u4 30, .inl (y 0, 200, .inl (fun _ => 0))), (u4 31, .inl (y 0, 200, .inl (fun _ => 0))), (u4 32, .inl (y 0, 200, .inl (fun _ => 0))), (u4 33, .inl (y 0, 200, .inl (fun _ => 0))), (u4 34, .inr (0, [.ref (u4 35), .ref (u4 36), .ref (u4 37), .long 0])), (u4 35, .inl (y 1, 40, .inr (.inl (fun _ => 0)))), (u4 36, .inl (y 1, 40, .inr (.inl (fun _ => 0)))), (u4 37, .inl (y 1, 40, .inr (.inl (fun _ => 0)))), (u4 38, .inr (6, [.int 0, .int 0, .ref (u4 39), .ref (u4 40), .ref (u4 41), .ref (u4 42), .ref (u4 43), .ref (u4 44), .ref (u4 45), .ref (u4 46), .ref (u4 47)])), (u4 39, .inl (y 0, 16, .inl (fun _ => 0))), (u4 40, .inl (y 0, 16, .inl (fun _ => 0))), (u4 41, .inl (y 0, 16, .inl (fun _ => 0))), (u4 42, .inl (y 0, 16, .inl (fun _ => 0))), (u4 43, .inl (y 0, 16, .inl (fun _ => 0))), (u4 44, .inl (y 0, 16, .inl (fun _ => 0))), (u4 45, .inl (y 1, 16, .inr (.inl (fun _ => 0)))), (u4 46, .inl (y 0, 40, .inl (fun _ => 0))), (u4 47, .inl (y 0, 2400, .inl (fun _ => 0))), (u4 48, .inl (y 0, 200, .inl (fun _ => 0))), (u4 49, .inl (y 0, 200, .inl (fun _ => 0))), (u4 50, .inr (0, [.ref (u4 51), .ref (u4 52), .ref (u4 53), .long 0])), (u4 51, .inl (y 1, 40, .inr (.inl (fun _ => 0)))), (u4 52, .inl (y 1, 40, .inr (.inl (fun _ => 0)))), (u4 53, .inl (y 1, 40, .inr (.inl (fun _ => 0)))), (u4 54, .inl (y 0, 40, .inl (fun _ => 0)))] := hD
  refine lv_astore_n (lv' := [(1, .ref q0), (0, .ref b)]) hx hb dL_law_7 rfl hl (by decide) rfl (fun ls hl => ?_)
  refine va_new (ci := 9) (fs := Z9) (C := RX9) (T := TX9) (N := 51) hx hb hts jnX9 tyX9 tyX9_ok hown (hts _ cl_L_10) (hts _ ins_X9) (hts _ ini_X9) hK hP hD hS hA rfl zf9 (Nat.le_of_ble_eq_true rfl) (Nat.le_of_ble_eq_true rfl) dL_law_8 (fun q8 H hP hD hS => ?_)
  have hP : va_P D vwCl [(q0, .inr (8, [.ref (u4 1), .ref (u4 17), .ref (u4 50), .ref (u4 54), .int 0])), (u4 1, .inr (7, [.ref (u4 2), .ref (u4 6), .ref (u4 9), .ref (u4 12), .int 0, .int 0, .int 1, .int (-1)])), (u4 2, .inr (5, [.int 0, .int 0, .ref (u4 3), .ref (u4 4), .ref (u4 5)])), (u4 3, .inl (y 0, 40, .inl (fun _ => 0))), (u4 4, .inl (y 0, 40, .inl (fun _ => 0))), (u4 5, .inl (y 2, 40, .inl (fun _ => 0))), (u4 6, .inr (3, [.int 0, .ref (u4 7), .ref (u4 8)])), (u4 7, .inl (y 0, 60, .inl (fun _ => 0))), (u4 8, .inl (y 0, 60, .inl (fun _ => 0))), (u4 9, .inr (2, [.ref (u4 10), .ref (u4 11)])), (u4 10, .inl (y 0, 8, .inl (fun _ => 0))), (u4 11, .inl (y 0, 8, .inl (fun _ => 0))), (u4 12, .inr (1, [.int 0, .ref (u4 13), .ref (u4 14), .ref (u4 15), .ref (u4 16)])), (u4 13, .inl (y 0, 200, .inl (fun _ => 0))), (u4 14, .inl (y 0, 200, .inl (fun _ => 0))), (u4 15, .inl (y 0, 200, .inl (fun _ => 0))), (u4 16, .inl (y 0, 200, .inl (fun _ => 0))), (u4 17, .inr (4, [.ref (u4 18), .ref (u4 34), .ref (u4 38), .ref (u4 48), .ref (u4 49), .int 0, .int 0, .int 0, .int 0])), (u4 18, .inr (7, [.ref (u4 19), .ref (u4 23), .ref (u4 26), .ref (u4 29), .int 0, .int 0, .int 1, .int (-1)])), (u4 19, .inr (5, [.int 0, .int 0, .ref (u4 20), .ref (u4 21), .ref (u4 22)])), (u4 20, .inl (y 0, 40, .inl (fun _ => 0))), (u4 21, .inl (y 0, 40, .inl (fun _ => 0))), (u4 22, .inl (y 2, 40, .inl (fun _ => 0))), (u4 23, .inr (3, [.int 0, .ref (u4 24), .ref (u4 25)])), (u4 24, .inl (y 0, 60, .inl (fun _ => 0))), (u4 25, .inl (y 0, 60, .inl (fun _ => 0))), (u4 26, .inr (2, [.ref (u4 27), .ref (u4 28)])), (u4 27, .inl (y 0, 8, .inl (fun _ => 0))), (u4 28, .inl (y 0, 8, .inl (fun _ => 0))), (u4 29, .inr (1, [.int 0, .ref (u4 30), .ref (u4 31), .ref (u4 32), .ref (u4 33)])), (u4 30, .inl (y 0, 200, .inl (fun _ => 0))), (u4 31, .inl (y 0, 200, .inl (fun _ => 0))), (u4 32, .inl (y 0, 200, .inl (fun _ => 0))), (u4 33, .inl (y 0, 200, .inl (fun _ => 0))), (u4 34, .inr (0, [.ref (u4 35), .ref (u4 36), .ref (u4 37), .long 0])), (u4 35, .inl (y 1, 40, .inr (.inl (fun _ => 0)))), (u4 36, .inl (y 1, 40, .inr (.inl (fun _ => 0)))), (u4 37, .inl (y 1, 40, .inr (.inl (fun _ => 0)))), (u4 38, .inr (6, [.int 0, .int 0, .ref (u4 39), .ref (u4 40), .ref (u4 41), .ref (u4 42), .ref (u4 43), .ref (u4 44), .ref (u4 45), .ref (u4 46), .ref (u4 47)])), (u4 39, .inl (y 0, 16, .inl (fun _ => 0))), (u4 40, .inl (y 0, 16, .inl (fun _ => 0))), (u4 41, .inl (y 0, 16, .inl (fun _ => 0))), (u4 42, .inl (y 0, 16, .inl (fun _ => 0))), (u4 43, .inl (y 0, 16, .inl (fun _ => 0))), (u4 44, .inl (y 0, 16, .inl (fun _ => 0))), (u4 45, .inl (y 1, 16, .inr (.inl (fun _ => 0)))), (u4 46, .inl (y 0, 40, .inl (fun _ => 0))), (u4 47, .inl (y 0, 2400, .inl (fun _ => 0))), (u4 48, .inl (y 0, 200, .inl (fun _ => 0))), (u4 49, .inl (y 0, 200, .inl (fun _ => 0))), (u4 50, .inr (0, [.ref (u4 51), .ref (u4 52), .ref (u4 53), .long 0])), (u4 51, .inl (y 1, 40, .inr (.inl (fun _ => 0)))), (u4 52, .inl (y 1, 40, .inr (.inl (fun _ => 0)))), (u4 53, .inl (y 1, 40, .inr (.inl (fun _ => 0)))), (u4 54, .inl (y 0, 40, .inl (fun _ => 0))), (q8, .inr (9, [.int 0, .int 0, .int 0, .int 0, .null, .null, .null, .null, .null, .null, .null, .null, .null, .null, .null, .int 0, .int 0, .int 0, .int 0, .int 0, .int 0, .int 0, .int 0, .int 0, .int 0, .int 0, .long 0, .long 0, .null, .null, .null, .null, .null, .null, .null, .null, .null, .null, .null, .null, .int 0, .int 0, .null, .null, .null, .null, .null, .null, .null, .int 0, .null]))] H := hP
  have hD : va_D A [(q0, .inr (8, [.ref (u4 1), .ref (u4 17), .ref (u4 50), .ref (u4 54), .int 0])), (u4 1, .inr (7, [.ref (u4 2), .ref (u4 6), .ref (u4 9), .ref (u4 12), .int 0, .int 0, .int 1, .int (-1)])), (u4 2, .inr (5, [.int 0, .int 0, .ref (u4 3), .ref (u4 4), .ref (u4 5)])), (u4 3, .inl (y 0, 40, .inl (fun _ => 0))), (u4 4, .inl (y 0, 40, .inl (fun _ => 0))), (u4 5, .inl (y 2, 40, .inl (fun _ => 0))), (u4 6, .inr (3, [.int 0, .ref (u4 7), .ref (u4 8)])), (u4 7, .inl (y 0, 60, .inl (fun _ => 0))), (u4 8, .inl (y 0, 60, .inl (fun _ => 0))), (u4 9, .inr (2, [.ref (u4 10), .ref (u4 11)])), (u4 10, .inl (y 0, 8, .inl (fun _ => 0))), (u4 11, .inl (y 0, 8, .inl (fun _ => 0))), (u4 12, .inr (1, [.int 0, .ref (u4 13), .ref (u4 14), .ref (u4 15), .ref (u4 16)])), (u4 13, .inl (y 0, 200, .inl (fun _ => 0))), (u4 14, .inl (y 0, 200, .inl (fun _ => 0))), (u4 15, .inl (y 0, 200, .inl (fun _ => 0))), (u4 16, .inl (y 0, 200, .inl (fun _ => 0))), (u4 17, .inr (4, [.ref (u4 18), .ref (u4 34), .ref (u4 38), .ref (u4 48), .ref (u4 49), .int 0, .int 0, .int 0, .int 0])), (u4 18, .inr (7, [.ref (u4 19), .ref (u4 23), .ref (u4 26), .ref (u4 29), .int 0, .int 0, .int 1, .int (-1)])), (u4 19, .inr (5, [.int 0, .int 0, .ref (u4 20), .ref (u4 21), .ref (u4 22)])), (u4 20, .inl (y 0, 40, .inl (fun _ => 0))), (u4 21, .inl (y 0, 40, .inl (fun _ => 0))), (u4 22, .inl (y 2, 40, .inl (fun _ => 0))), (u4 23, .inr (3, [.int 0, .ref (u4 24), .ref (u4 25)])), (u4 24, .inl (y 0, 60, .inl (fun _ => 0))), (u4 25, .inl (y 0, 60, .inl (fun _ => 0))), (u4 26, .inr (2, [.ref (u4 27), .ref (u4 28)])), (u4 27, .inl (y 0, 8, .inl (fun _ => 0))), (u4 28, .inl (y 0, 8, .inl (fun _ => 0))), (u4 29, .inr (1, [.int 0, .ref (u4 30), .ref (u4 31), .ref (u4 32), .ref (u4 33)])), (u4 30, .inl (y 0, 200, .inl (fun _ => 0))), (u4 31, .inl (y 0, 200, .inl (fun _ => 0))), (u4 32, .inl (y 0, 200, .inl (fun _ => 0))), (u4 33, .inl (y 0, 200, .inl (fun _ => 0))), (u4 34, .inr (0, [.ref (u4 35), .ref (u4 36), .ref (u4 37), .long 0])), (u4 35, .inl (y 1, 40, .inr (.inl (fun _ => 0)))), (u4 36, .inl (y 1, 40, .inr (.inl (fun _ => 0)))), (u4 37, .inl (y 1, 40, .inr (.inl (fun _ => 0)))), (u4 38, .inr (6, [.int 0, .int 0, .ref (u4 39), .ref (u4 40), .ref (u4 41), .ref (u4 42), .ref (u4 43), .ref (u4 44), .ref (u4 45), .ref (u4 46), .ref (u4 47)])), (u4 39, .inl (y 0, 16, .inl (fun _ => 0))), (u4 40, .inl (y 0, 16, .inl (fun _ => 0))), (u4 41, .inl (y 0, 16, .inl (fun _ => 0))), (u4 42, .inl (y 0, 16, .inl (fun _ => 0))), (u4 43, .inl (y 0, 16, .inl (fun _ => 0))), (u4 44, .inl (y 0, 16, .inl (fun _ => 0))), (u4 45, .inl (y 1, 16, .inr (.inl (fun _ => 0)))), (u4 46, .inl (y 0, 40, .inl (fun _ => 0))), (u4 47, .inl (y 0, 2400, .inl (fun _ => 0))), (u4 48, .inl (y 0, 200, .inl (fun _ => 0))), (u4 49, .inl (y 0, 200, .inl (fun _ => 0))), (u4 50, .inr (0, [.ref (u4 51), .ref (u4 52), .ref (u4 53), .long 0])), (u4 51, .inl (y 1, 40, .inr (.inl (fun _ => 0)))), (u4 52, .inl (y 1, 40, .inr (.inl (fun _ => 0)))), (u4 53, .inl (y 1, 40, .inr (.inl (fun _ => 0)))), (u4 54, .inl (y 0, 40, .inl (fun _ => 0))), (q8, .inr (9, [.int 0, .int 0, .int 0, .int 0, .null, .null, .null, .null, .null, .null, .null, .null, .null, .null, .null, .int 0, .int 0, .int 0, .int 0, .int 0, .int 0, .int 0, .int 0, .int 0, .int 0, .int 0, .long 0, .long 0, .null, .null, .null, .null, .null, .null, .null, .null, .null, .null, .null, .null, .int 0, .int 0, .null, .null, .null, .null, .null, .null, .null, .int 0, .null]))] := hD
  refine lv_dup hx hb dL_law_11 rfl ?_
  have hPc := hP.sub (ws' := [(q8, .inr (9, Z9))]) [55] rfl
  have hDc := hD.sub (ws' := [(q8, .inr (9, Z9))]) [55] (by decide) rfl
  have hFc := va_free (wc := [(q8, .inr (9, Z9))]) hD hS hA [55] rfl
  refine va_callv (run_i (As := []) (rest := [.ref q8]) (b := q8) hx hb hml hown hO.2 (c_X9_init l D y q8 H.size) k_X9_init ml_L_12 ⟨rfl, rfl⟩ ⟨Nat.le_of_ble_eq_true rfl, Nat.le_of_ble_eq_true rfl⟩ (pre_SW hO hPc hDc) rfl hl.1 rfl (Nat.le_of_ble_eq_true rfl) dL_law_12 ⟨Nat.le_of_ble_eq_true rfl, Nat.le_of_ble_eq_true rfl⟩) hS (fun q _ h => hFc q h) hFc (fun u12 t H1 locs ht _ _ hB _ hk1 hS => ?_)
  obtain ⟨hP1, hD1⟩ := hB
  rw [ht] at hP1
  obtain ⟨hP, hD⟩ := va_join (wr := [(q0, .inr (8, [.ref (u4 1), .ref (u4 17), .ref (u4 50), .ref (u4 54), .int 0])), (u4 1, .inr (7, [.ref (u4 2), .ref (u4 6), .ref (u4 9), .ref (u4 12), .int 0, .int 0, .int 1, .int (-1)])), (u4 2, .inr (5, [.int 0, .int 0, .ref (u4 3), .ref (u4 4), .ref (u4 5)])), (u4 3, .inl (y 0, 40, .inl (fun _ => 0))), (u4 4, .inl (y 0, 40, .inl (fun _ => 0))), (u4 5, .inl (y 2, 40, .inl (fun _ => 0))), (u4 6, .inr (3, [.int 0, .ref (u4 7), .ref (u4 8)])), (u4 7, .inl (y 0, 60, .inl (fun _ => 0))), (u4 8, .inl (y 0, 60, .inl (fun _ => 0))), (u4 9, .inr (2, [.ref (u4 10), .ref (u4 11)])), (u4 10, .inl (y 0, 8, .inl (fun _ => 0))), (u4 11, .inl (y 0, 8, .inl (fun _ => 0))), (u4 12, .inr (1, [.int 0, .ref (u4 13), .ref (u4 14), .ref (u4 15), .ref (u4 16)])), (u4 13, .inl (y 0, 200, .inl (fun _ => 0))), (u4 14, .inl (y 0, 200, .inl (fun _ => 0))), (u4 15, .inl (y 0, 200, .inl (fun _ => 0))), (u4 16, .inl (y 0, 200, .inl (fun _ => 0))), (u4 17, .inr (4, [.ref (u4 18), .ref (u4 34), .ref (u4 38), .ref (u4 48), .ref (u4 49), .int 0, .int 0, .int 0, .int 0])), (u4 18, .inr (7, [.ref (u4 19), .ref (u4 23), .ref (u4 26), .ref (u4 29), .int 0, .int 0, .int 1, .int (-1)])), (u4 19, .inr (5, [.int 0, .int 0, .ref (u4 20), .ref (u4 21), .ref (u4 22)])), (u4 20, .inl (y 0, 40, .inl (fun _ => 0))), (u4 21, .inl (y 0, 40, .inl (fun _ => 0))), (u4 22, .inl (y 2, 40, .inl (fun _ => 0))), (u4 23, .inr (3, [.int 0, .ref (u4 24), .ref (u4 25)])), (u4 24, .inl (y 0, 60, .inl (fun _ => 0))), (u4 25, .inl (y 0, 60, .inl (fun _ => 0))), (u4 26, .inr (2, [.ref (u4 27), .ref (u4 28)])), (u4 27, .inl (y 0, 8, .inl (fun _ => 0))), (u4 28, .inl (y 0, 8, .inl (fun _ => 0))), (u4 29, .inr (1, [.int 0, .ref (u4 30), .ref (u4 31), .ref (u4 32), .ref (u4 33)])), (u4 30, .inl (y 0, 200, .inl (fun _ => 0))), (u4 31, .inl (y 0, 200, .inl (fun _ => 0))), (u4 32, .inl (y 0, 200, .inl (fun _ => 0))), (u4 33, .inl (y 0, 200, .inl (fun _ => 0))), (u4 34, .inr (0, [.ref (u4 35), .ref (u4 36), .ref (u4 37), .long 0])), (u4 35, .inl (y 1, 40, .inr (.inl (fun _ => 0)))), (u4 36, .inl (y 1, 40, .inr (.inl (fun _ => 0)))), (u4 37, .inl (y 1, 40, .inr (.inl (fun _ => 0)))), (u4 38, .inr (6, [.int 0, .int 0, .ref (u4 39), .ref (u4 40), .ref (u4 41), .ref (u4 42), .ref (u4 43), .ref (u4 44), .ref (u4 45), .ref (u4 46), .ref (u4 47)])), (u4 39, .inl (y 0, 16, .inl (fun _ => 0))), (u4 40, .inl (y 0, 16, .inl (fun _ => 0))), (u4 41, .inl (y 0, 16, .inl (fun _ => 0))), (u4 42, .inl (y 0, 16, .inl (fun _ => 0))), (u4 43, .inl (y 0, 16, .inl (fun _ => 0))), (u4 44, .inl (y 0, 16, .inl (fun _ => 0))), (u4 45, .inl (y 1, 16, .inr (.inl (fun _ => 0)))), (u4 46, .inl (y 0, 40, .inl (fun _ => 0))), (u4 47, .inl (y 0, 2400, .inl (fun _ => 0))), (u4 48, .inl (y 0, 200, .inl (fun _ => 0))), (u4 49, .inl (y 0, 200, .inl (fun _ => 0))), (u4 50, .inr (0, [.ref (u4 51), .ref (u4 52), .ref (u4 53), .long 0])), (u4 51, .inl (y 1, 40, .inr (.inl (fun _ => 0)))), (u4 52, .inl (y 1, 40, .inr (.inl (fun _ => 0)))), (u4 53, .inl (y 1, 40, .inr (.inl (fun _ => 0)))), (u4 54, .inl (y 0, 40, .inl (fun _ => 0)))]) hP hD [55] [0, 1, 2, 3, 4, 5, 6, 7, 8, 9, 10, 11, 12, 13, 14, 15, 16, 17, 18, 19, 20, 21, 22, 23, 24, 25, 26, 27, 28, 29, 30, 31, 32, 33, 34, 35, 36, 37, 38, 39, 40, 41, 42, 43, 44, 45, 46, 47, 48, 49, 50, 51, 52, 53, 54] rfl rfl (by decide) (by decide) hk1 hFc hP1 hD1
  clear hP1 hD1 hPc hDc hFc hk1 ht
  generalize H1 = H at hP hS ⊢
  have hP : va_P D vwCl [(q0, .inr (8, [.ref (u4 1), .ref (u4 17), .ref (u4 50), .ref (u4 54), .int 0])), (u4 1, .inr (7, [.ref (u4 2), .ref (u4 6), .ref (u4 9), .ref (u4 12), .int 0, .int 0, .int 1, .int (-1)])), (u4 2, .inr (5, [.int 0, .int 0, .ref (u4 3), .ref (u4 4), .ref (u4 5)])), (u4 3, .inl (y 0, 40, .inl (fun _ => 0))), (u4 4, .inl (y 0, 40, .inl (fun _ => 0))), (u4 5, .inl (y 2, 40, .inl (fun _ => 0))), (u4 6, .inr (3, [.int 0, .ref (u4 7), .ref (u4 8)])), (u4 7, .inl (y 0, 60, .inl (fun _ => 0))), (u4 8, .inl (y 0, 60, .inl (fun _ => 0))), (u4 9, .inr (2, [.ref (u4 10), .ref (u4 11)])), (u4 10, .inl (y 0, 8, .inl (fun _ => 0))), (u4 11, .inl (y 0, 8, .inl (fun _ => 0))), (u4 12, .inr (1, [.int 0, .ref (u4 13), .ref (u4 14), .ref (u4 15), .ref (u4 16)])), (u4 13, .inl (y 0, 200, .inl (fun _ => 0))), (u4 14, .inl (y 0, 200, .inl (fun _ => 0))), (u4 15, .inl (y 0, 200, .inl (fun _ => 0))), (u4 16, .inl (y 0, 200, .inl (fun _ => 0))), (u4 17, .inr (4, [.ref (u4 18), .ref (u4 34), .ref (u4 38), .ref (u4 48), .ref (u4 49), .int 0, .int 0, .int 0, .int 0])), (u4 18, .inr (7, [.ref (u4 19), .ref (u4 23), .ref (u4 26), .ref (u4 29), .int 0, .int 0, .int 1, .int (-1)])), (u4 19, .inr (5, [.int 0, .int 0, .ref (u4 20), .ref (u4 21), .ref (u4 22)])), (u4 20, .inl (y 0, 40, .inl (fun _ => 0))), (u4 21, .inl (y 0, 40, .inl (fun _ => 0))), (u4 22, .inl (y 2, 40, .inl (fun _ => 0))), (u4 23, .inr (3, [.int 0, .ref (u4 24), .ref (u4 25)])), (u4 24, .inl (y 0, 60, .inl (fun _ => 0))), (u4 25, .inl (y 0, 60, .inl (fun _ => 0))), (u4 26, .inr (2, [.ref (u4 27), .ref (u4 28)])), (u4 27, .inl (y 0, 8, .inl (fun _ => 0))), (u4 28, .inl (y 0, 8, .inl (fun _ => 0))), (u4 29, .inr (1, [.int 0, .ref (u4 30), .ref (u4 31), .ref (u4 32), .ref (u4 33)])), (u4 30, .inl (y 0, 200, .inl (fun _ => 0))), (u4 31, .inl (y 0, 200, .inl (fun _ => 0))), (u4 32, .inl (y 0, 200, .inl (fun _ => 0))), (u4 33, .inl (y 0, 200, .inl (fun _ => 0))), (u4 34, .inr (0, [.ref (u4 35), .ref (u4 36), .ref (u4 37), .long 0])), (u4 35, .inl (y 1, 40, .inr (.inl (fun _ => 0)))), (u4 36, .inl (y 1, 40, .inr (.inl (fun _ => 0)))), (u4 37, .inl (y 1, 40, .inr (.inl (fun _ => 0)))), (u4 38, .inr (6, [.int 0, .int 0, .ref (u4 39), .ref (u4 40), .ref (u4 41), .ref (u4 42), .ref (u4 43), .ref (u4 44), .ref (u4 45), .ref (u4 46), .ref (u4 47)])), (u4 39, .inl (y 0, 16, .inl (fun _ => 0))), (u4 40, .inl (y 0, 16, .inl (fun _ => 0))), (u4 41, .inl (y 0, 16, .inl (fun _ => 0))), (u4 42, .inl (y 0, 16, .inl (fun _ => 0))), (u4 43, .inl (y 0, 16, .inl (fun _ => 0))), (u4 44, .inl (y 0, 16, .inl (fun _ => 0))), (u4 45, .inl (y 1, 16, .inr (.inl (fun _ => 0)))), (u4 46, .inl (y 0, 40, .inl (fun _ => 0))), (u4 47, .inl (y 0, 2400, .inl (fun _ => 0))), (u4 48, .inl (y 0, 200, .inl (fun _ => 0))), (u4 49, .inl (y 0, 200, .inl (fun _ => 0))), (u4 50, .inr (0, [.ref (u4 51), .ref (u4 52), .ref (u4 53), .long 0])), (u4 51, .inl (y 1, 40, .inr (.inl (fun _ => 0)))), (u4 52, .inl (y 1, 40, .inr (.inl (fun _ => 0)))), (u4 53, .inl (y 1, 40, .inr (.inl (fun _ => 0)))), (u4 54, .inl (y 0, 40, .inl (fun _ => 0))), (q8, .inr (9, [.int 0, .int 0, .int 0, .int 0, .ref (u12 1), .ref (u12 2), .ref (u12 3), .ref (u12 4), .ref (u12 5), .ref (u12 6), .ref (u12 7), .ref (u12 8), .ref (u12 9), .ref (u12 10), .ref (u12 11), .int 0, .int 0, .int 0, .int 0, .int 0, .int 0, .int 0, .int 0, .int 0, .int 0, .int 0, .long 0, .long 0, .ref (u12 12), .ref (u12 13), .ref (u12 14), .ref (u12 15), .ref (u12 16), .ref (u12 17), .ref (u12 18), .ref (u12 19), .ref (u12 20), .ref (u12 21), .ref (u12 22), .ref (u12 23), .int 0, .int 0, .ref (u12 24), .ref (u12 25), .ref (u12 26), .ref (u12 27), .ref (u12 28), .ref (u12 29), .ref (u12 30), .int 0, .ref (u12 31)])), (u12 1, .inl (y 0, 40, .inl (fun _ => 0))), (u12 2, .inl (y 0, 40, .inl (fun _ => 0))), (u12 3, .inl (y 2, 40, .inl (fun _ => 0))), (u12 4, .inl (y 0, 60, .inl (fun _ => 0))), (u12 5, .inl (y 0, 60, .inl (fun _ => 0))), (u12 6, .inl (y 0, 200, .inl (fun _ => 0))), (u12 7, .inl (y 0, 200, .inl (fun _ => 0))), (u12 8, .inl (y 0, 200, .inl (fun _ => 0))), (u12 9, .inl (y 0, 200, .inl (fun _ => 0))), (u12 10, .inl (y 0, 8, .inl (fun _ => 0))), (u12 11, .inl (y 0, 8, .inl (fun _ => 0))), (u12 12, .inl (y 1, 40, .inr (.inl (fun _ => 0)))), (u12 13, .inl (y 1, 40, .inr (.inl (fun _ => 0)))), (u12 14, .inl (y 2, 40, .inl (fun _ => 0))), (u12 15, .inl (y 1, 40, .inr (.inl (fun _ => 0)))), (u12 16, .inl (y 1, 60, .inr (.inl (fun _ => 0)))), (u12 17, .inl (y 1, 200, .inr (.inl (fun _ => 0)))), (u12 18, .inl (y 0, 200, .inl (fun _ => 0))), (u12 19, .inl (y 0, 200, .inl (fun _ => 0))), (u12 20, .inl (y 0, 200, .inl (fun _ => 0))), (u12 21, .inl (y 0, 200, .inl (fun _ => 0))), (u12 22, .inl (y 0, 8, .inl (fun _ => 0))), (u12 23, .inl (y 0, 8, .inl (fun _ => 0))), (u12 24, .inl (y 1, 2400, .inr (.inl (fun _ => 0)))), (u12 25, .inl (y 0, 2400, .inl (fun _ => 0))), (u12 26, .inl (y 0, 2400, .inl (fun _ => 0))), (u12 27, .inl (y 0, 2400, .inl (fun _ => 0))), (u12 28, .inl (y 0, 2400, .inl (fun _ => 0))), (u12 29, .inl (y 0, 2400, .inl (fun _ => 0))), (u12 30, .inl (y 0, 2400, .inl (fun _ => 0))), (u12 31, .inl (y 1, 40, .inr (.inl (fun _ => 0))))] H := hP
  have hD : va_D A [(q0, .inr (8, [.ref (u4 1), .ref (u4 17), .ref (u4 50), .ref (u4 54), .int 0])), (u4 1, .inr (7, [.ref (u4 2), .ref (u4 6), .ref (u4 9), .ref (u4 12), .int 0, .int 0, .int 1, .int (-1)])), (u4 2, .inr (5, [.int 0, .int 0, .ref (u4 3), .ref (u4 4), .ref (u4 5)])), (u4 3, .inl (y 0, 40, .inl (fun _ => 0))), (u4 4, .inl (y 0, 40, .inl (fun _ => 0))), (u4 5, .inl (y 2, 40, .inl (fun _ => 0))), (u4 6, .inr (3, [.int 0, .ref (u4 7), .ref (u4 8)])), (u4 7, .inl (y 0, 60, .inl (fun _ => 0))), (u4 8, .inl (y 0, 60, .inl (fun _ => 0))), (u4 9, .inr (2, [.ref (u4 10), .ref (u4 11)])), (u4 10, .inl (y 0, 8, .inl (fun _ => 0))), (u4 11, .inl (y 0, 8, .inl (fun _ => 0))), (u4 12, .inr (1, [.int 0, .ref (u4 13), .ref (u4 14), .ref (u4 15), .ref (u4 16)])), (u4 13, .inl (y 0, 200, .inl (fun _ => 0))), (u4 14, .inl (y 0, 200, .inl (fun _ => 0))), (u4 15, .inl (y 0, 200, .inl (fun _ => 0))), (u4 16, .inl (y 0, 200, .inl (fun _ => 0))), (u4 17, .inr (4, [.ref (u4 18), .ref (u4 34), .ref (u4 38), .ref (u4 48), .ref (u4 49), .int 0, .int 0, .int 0, .int 0])), (u4 18, .inr (7, [.ref (u4 19), .ref (u4 23), .ref (u4 26), .ref (u4 29), .int 0, .int 0, .int 1, .int (-1)])), (u4 19, .inr (5, [.int 0, .int 0, .ref (u4 20), .ref (u4 21), .ref (u4 22)])), (u4 20, .inl (y 0, 40, .inl (fun _ => 0))), (u4 21, .inl (y 0, 40, .inl (fun _ => 0))), (u4 22, .inl (y 2, 40, .inl (fun _ => 0))), (u4 23, .inr (3, [.int 0, .ref (u4 24), .ref (u4 25)])), (u4 24, .inl (y 0, 60, .inl (fun _ => 0))), (u4 25, .inl (y 0, 60, .inl (fun _ => 0))), (u4 26, .inr (2, [.ref (u4 27), .ref (u4 28)])), (u4 27, .inl (y 0, 8, .inl (fun _ => 0))), (u4 28, .inl (y 0, 8, .inl (fun _ => 0))), (u4 29, .inr (1, [.int 0, .ref (u4 30), .ref (u4 31), .ref (u4 32), .ref (u4 33)])), (u4 30, .inl (y 0, 200, .inl (fun _ => 0))), (u4 31, .inl (y 0, 200, .inl (fun _ => 0))), (u4 32, .inl (y 0, 200, .inl (fun _ => 0))), (u4 33, .inl (y 0, 200, .inl (fun _ => 0))), (u4 34, .inr (0, [.ref (u4 35), .ref (u4 36), .ref (u4 37), .long 0])), (u4 35, .inl (y 1, 40, .inr (.inl (fun _ => 0)))), (u4 36, .inl (y 1, 40, .inr (.inl (fun _ => 0)))), (u4 37, .inl (y 1, 40, .inr (.inl (fun _ => 0)))), (u4 38, .inr (6, [.int 0, .int 0, .ref (u4 39), .ref (u4 40), .ref (u4 41), .ref (u4 42), .ref (u4 43), .ref (u4 44), .ref (u4 45), .ref (u4 46), .ref (u4 47)])), (u4 39, .inl (y 0, 16, .inl (fun _ => 0))), (u4 40, .inl (y 0, 16, .inl (fun _ => 0))), (u4 41, .inl (y 0, 16, .inl (fun _ => 0))), (u4 42, .inl (y 0, 16, .inl (fun _ => 0))), (u4 43, .inl (y 0, 16, .inl (fun _ => 0))), (u4 44, .inl (y 0, 16, .inl (fun _ => 0))), (u4 45, .inl (y 1, 16, .inr (.inl (fun _ => 0)))), (u4 46, .inl (y 0, 40, .inl (fun _ => 0))), (u4 47, .inl (y 0, 2400, .inl (fun _ => 0))), (u4 48, .inl (y 0, 200, .inl (fun _ => 0))), (u4 49, .inl (y 0, 200, .inl (fun _ => 0))), (u4 50, .inr (0, [.ref (u4 51), .ref (u4 52), .ref (u4 53), .long 0])), (u4 51, .inl (y 1, 40, .inr (.inl (fun _ => 0)))), (u4 52, .inl (y 1, 40, .inr (.inl (fun _ => 0)))), (u4 53, .inl (y 1, 40, .inr (.inl (fun _ => 0)))), (u4 54, .inl (y 0, 40, .inl (fun _ => 0))), (q8, .inr (9, [.int 0, .int 0, .int 0, .int 0, .ref (u12 1), .ref (u12 2), .ref (u12 3), .ref (u12 4), .ref (u12 5), .ref (u12 6), .ref (u12 7), .ref (u12 8), .ref (u12 9), .ref (u12 10), .ref (u12 11), .int 0, .int 0, .int 0, .int 0, .int 0, .int 0, .int 0, .int 0, .int 0, .int 0, .int 0, .long 0, .long 0, .ref (u12 12), .ref (u12 13), .ref (u12 14), .ref (u12 15), .ref (u12 16), .ref (u12 17), .ref (u12 18), .ref (u12 19), .ref (u12 20), .ref (u12 21), .ref (u12 22), .ref (u12 23), .int 0, .int 0, .ref (u12 24), .ref (u12 25), .ref (u12 26), .ref (u12 27), .ref (u12 28), .ref (u12 29), .ref (u12 30), .int 0, .ref (u12 31)])), (u12 1, .inl (y 0, 40, .inl (fun _ => 0))), (u12 2, .inl (y 0, 40, .inl (fun _ => 0))), (u12 3, .inl (y 2, 40, .inl (fun _ => 0))), (u12 4, .inl (y 0, 60, .inl (fun _ => 0))), (u12 5, .inl (y 0, 60, .inl (fun _ => 0))), (u12 6, .inl (y 0, 200, .inl (fun _ => 0))), (u12 7, .inl (y 0, 200, .inl (fun _ => 0))), (u12 8, .inl (y 0, 200, .inl (fun _ => 0))), (u12 9, .inl (y 0, 200, .inl (fun _ => 0))), (u12 10, .inl (y 0, 8, .inl (fun _ => 0))), (u12 11, .inl (y 0, 8, .inl (fun _ => 0))), (u12 12, .inl (y 1, 40, .inr (.inl (fun _ => 0)))), (u12 13, .inl (y 1, 40, .inr (.inl (fun _ => 0)))), (u12 14, .inl (y 2, 40, .inl (fun _ => 0))), (u12 15, .inl (y 1, 40, .inr (.inl (fun _ => 0)))), (u12 16, .inl (y 1, 60, .inr (.inl (fun _ => 0)))), (u12 17, .inl (y 1, 200, .inr (.inl (fun _ => 0)))), (u12 18, .inl (y 0, 200, .inl (fun _ => 0))), (u12 19, .inl (y 0, 200, .inl (fun _ => 0))), (u12 20, .inl (y 0, 200, .inl (fun _ => 0))), (u12 21, .inl (y 0, 200, .inl (fun _ => 0))), (u12 22, .inl (y 0, 8, .inl (fun _ => 0))), (u12 23, .inl (y 0, 8, .inl (fun _ => 0))), (u12 24, .inl (y 1, 2400, .inr (.inl (fun _ => 0)))), (u12 25, .inl (y 0, 2400, .inl (fun _ => 0))), (u12 26, .inl (y 0, 2400, .inl (fun _ => 0))), (u12 27, .inl (y 0, 2400, .inl (fun _ => 0))), (u12 28, .inl (y 0, 2400, .inl (fun _ => 0))), (u12 29, .inl (y 0, 2400, .inl (fun _ => 0))), (u12 30, .inl (y 0, 2400, .inl (fun _ => 0))), (u12 31, .inl (y 1, 40, .inr (.inl (fun _ => 0))))] := hD
  refine lv_astore_n (lv' := [(2, .ref q8), (1, .ref q0), (0, .ref b)]) hx hb dL_law_15 rfl hl (by decide) rfl (fun ls hl => ?_)
  refine lv_iconst (v := 0) hx hb dL_law_16 (by decide) ?_
  refine lv_istore_n (lv' := [(3, .int 0), (2, .ref q8), (1, .ref q0), (0, .ref b)]) hx hb dL_law_17 rfl hl (by decide) rfl (fun ls hl => ?_)
  have hP : va_P D vwCl (Wd y (adZ q0 u4 q8 u12) (capZ u4) I0 J0) H := hP
  have hD : va_D A (Wd y (adZ q0 u4 q8 u12) (capZ u4) I0 J0) := hD
  refine W.widen (k := 87 + (capZ u4 0 - 16)) (n := 24606 + 50 * (capZ u4 0 - 16)) (by show 87 ≤ 87 + (16 - 16); omega) (by show 24606 ≤ 24606 + 50 * (16 - 16); omega) ?_
  exact law_loop hL C0 hO hAe (L + 6) 0 (adZ q0 u4 q8 u12) (capZ u4) I0 J0 T0 0 T0 [] 0 (by omega) (by omega) inv0 _ _ hP hD hS ls (by exact lv_sub hl [3, 2, 1, 0] rfl)
