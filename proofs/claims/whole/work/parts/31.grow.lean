def Wg (y : Nat → ClassId) (ad : Nat → Nat) (cap : Nat → Nat) (ρ : Nat → Nat) (I : Nat → Nat → Int32) (J : Nat → Nat → Int64) : va_W := [
  (ad 0, .inr (8, [.ref (ad 1), .ref (ad 17), .ref (ad 50), .ref (ad 54), .int (I 0 4)])),
  (ad 1, .inr (7, [.ref (ad 2), .ref (ad 6), .ref (ad 9), .ref (ad 12), .int (I 1 4), .int (I 1 5), .int (I 1 6), .int (I 1 7)])),
  (ad 2, .inr (5, [.int (I 2 0), .int (I 2 1), .ref (ad 3), .ref (ad 4), .ref (ad 5)])),
  (ad 3, .inl (y 0, 40, .inl (I 3))),
  (ad 4, .inl (y 0, 40, .inl (I 4))),
  (ad 5, .inl (y 2, 40, .inl (I 5))),
  (ad 6, .inr (3, [.int (I 6 0), .ref (ad 7), .ref (ad 8)])),
  (ad 7, .inl (y 0, 60, .inl (I 7))),
  (ad 8, .inl (y 0, 60, .inl (I 8))),
  (ad 9, .inr (2, [.ref (ad 10), .ref (ad 11)])),
  (ad 10, .inl (y 0, 8, .inl (I 10))),
  (ad 11, .inl (y 0, 8, .inl (I 11))),
  (ad 12, .inr (1, [.int (I 12 0), .ref (ad 13), .ref (ad 14), .ref (ad 15), .ref (ad 16)])),
  (ad 13, .inl (y 0, 200, .inl (I 13))),
  (ad 14, .inl (y 0, 200, .inl (I 14))),
  (ad 15, .inl (y 0, 200, .inl (I 15))),
  (ad 16, .inl (y 0, 200, .inl (I 16))),
  (ad 17, .inr (4, [.ref (ad 18), .ref (ad 34), .ref (ad 38), .ref (ad 48), .ref (ad 49), .int (I 17 5), .int (I 17 6), .int (I 17 7), .int (I 17 8)])),
  (ad 18, .inr (7, [.ref (ad 19), .ref (ad 23), .ref (ad 26), .ref (ad 29), .int (I 18 4), .int (I 18 5), .int (I 18 6), .int (I 18 7)])),
  (ad 19, .inr (5, [.int (I 19 0), .int (I 19 1), .ref (ad 20), .ref (ad 21), .ref (ad 22)])),
  (ad 20, .inl (y 0, 40, .inl (I 20))),
  (ad 21, .inl (y 0, 40, .inl (I 21))),
  (ad 22, .inl (y 2, 40, .inl (I 22))),
  (ad 23, .inr (3, [.int (I 23 0), .ref (ad 24), .ref (ad 25)])),
  (ad 24, .inl (y 0, 60, .inl (I 24))),
  (ad 25, .inl (y 0, 60, .inl (I 25))),
  (ad 26, .inr (2, [.ref (ad 27), .ref (ad 28)])),
  (ad 27, .inl (y 0, 8, .inl (I 27))),
  (ad 28, .inl (y 0, 8, .inl (I 28))),
  (ad 29, .inr (1, [.int (I 29 0), .ref (ad 30), .ref (ad 31), .ref (ad 32), .ref (ad 33)])),
  (ad 30, .inl (y 0, 200, .inl (I 30))),
  (ad 31, .inl (y 0, 200, .inl (I 31))),
  (ad 32, .inl (y 0, 200, .inl (I 32))),
  (ad 33, .inl (y 0, 200, .inl (I 33))),
  (ad 34, .inr (0, [.ref (ad 35), .ref (ad 36), .ref (ad 37), .long (J 34 3)])),
  (ad 35, .inl (y 1, 40, .inr (.inl (J 35)))),
  (ad 36, .inl (y 1, 40, .inr (.inl (J 36)))),
  (ad 37, .inl (y 1, 40, .inr (.inl (J 37)))),
  (ad 38, .inr (6, [.int (I 38 0), .int (I 38 1), .ref (ρ 39), .ref (ρ 40), .ref (ρ 41), .ref (ρ 42), .ref (ρ 43), .ref (ρ 44), .ref (ρ 45), .ref (ad 46), .ref (ad 47)])),
  (cap 39, .inl (y 0, (cap 0), .inl (I 39))),
  (cap 40, .inl (y 0, (cap 0), .inl (I 40))),
  (cap 41, .inl (y 0, (cap 0), .inl (I 41))),
  (cap 42, .inl (y 0, (cap 0), .inl (I 42))),
  (cap 43, .inl (y 0, (cap 0), .inl (I 43))),
  (cap 44, .inl (y 0, (cap 0), .inl (I 44))),
  (cap 45, .inl (y 1, (cap 0), .inr (.inl (J 45)))),
  (ad 46, .inl (y 0, 40, .inl (I 46))),
  (ad 47, .inl (y 0, 2400, .inl (I 47))),
  (ad 48, .inl (y 0, 200, .inl (I 48))),
  (ad 49, .inl (y 0, 200, .inl (I 49))),
  (ad 50, .inr (0, [.ref (ad 51), .ref (ad 52), .ref (ad 53), .long (J 50 3)])),
  (ad 51, .inl (y 1, 40, .inr (.inl (J 51)))),
  (ad 52, .inl (y 1, 40, .inr (.inl (J 52)))),
  (ad 53, .inl (y 1, 40, .inr (.inl (J 53)))),
  (ad 54, .inl (y 0, 40, .inl (I 54))),
  (ad 55, .inr (9, [.int (I 55 0), .int (I 55 1), .int (I 55 2), .int (I 55 3), .ref (ad 56), .ref (ad 57), .ref (ad 58), .ref (ad 59), .ref (ad 60), .ref (ad 61), .ref (ad 62), .ref (ad 63), .ref (ad 64), .ref (ad 65), .ref (ad 66), .int (I 55 15), .int (I 55 16), .int (I 55 17), .int (I 55 18), .int (I 55 19), .int (I 55 20), .int (I 55 21), .int (I 55 22), .int (I 55 23), .int (I 55 24), .int (I 55 25), .long (J 55 26), .long (J 55 27), .ref (ad 67), .ref (ad 68), .ref (ad 69), .ref (ad 70), .ref (ad 71), .ref (ad 72), .ref (ad 73), .ref (ad 74), .ref (ad 75), .ref (ad 76), .ref (ad 77), .ref (ad 78), .int (I 55 40), .int (I 55 41), .ref (ad 79), .ref (ad 80), .ref (ad 81), .ref (ad 82), .ref (ad 83), .ref (ad 84), .ref (ad 85), .int (I 55 49), .ref (ad 86)])),
  (ad 56, .inl (y 0, 40, .inl (I 56))),
  (ad 57, .inl (y 0, 40, .inl (I 57))),
  (ad 58, .inl (y 2, 40, .inl (I 58))),
  (ad 59, .inl (y 0, 60, .inl (I 59))),
  (ad 60, .inl (y 0, 60, .inl (I 60))),
  (ad 61, .inl (y 0, 200, .inl (I 61))),
  (ad 62, .inl (y 0, 200, .inl (I 62))),
  (ad 63, .inl (y 0, 200, .inl (I 63))),
  (ad 64, .inl (y 0, 200, .inl (I 64))),
  (ad 65, .inl (y 0, 8, .inl (I 65))),
  (ad 66, .inl (y 0, 8, .inl (I 66))),
  (ad 67, .inl (y 1, 40, .inr (.inl (J 67)))),
  (ad 68, .inl (y 1, 40, .inr (.inl (J 68)))),
  (ad 69, .inl (y 2, 40, .inl (I 69))),
  (ad 70, .inl (y 1, 40, .inr (.inl (J 70)))),
  (ad 71, .inl (y 1, 60, .inr (.inl (J 71)))),
  (ad 72, .inl (y 1, 200, .inr (.inl (J 72)))),
  (ad 73, .inl (y 0, 200, .inl (I 73))),
  (ad 74, .inl (y 0, 200, .inl (I 74))),
  (ad 75, .inl (y 0, 200, .inl (I 75))),
  (ad 76, .inl (y 0, 200, .inl (I 76))),
  (ad 77, .inl (y 0, 8, .inl (I 77))),
  (ad 78, .inl (y 0, 8, .inl (I 78))),
  (ad 79, .inl (y 1, 2400, .inr (.inl (J 79)))),
  (ad 80, .inl (y 0, 2400, .inl (I 80))),
  (ad 81, .inl (y 0, 2400, .inl (I 81))),
  (ad 82, .inl (y 0, 2400, .inl (I 82))),
  (ad 83, .inl (y 0, 2400, .inl (I 83))),
  (ad 84, .inl (y 0, 2400, .inl (I 84))),
  (ad 85, .inl (y 0, 2400, .inl (I 85))),
  (ad 86, .inl (y 1, 40, .inr (.inl (J 86))))]
theorem wg_wd (y : Nat → ClassId) (ad : Nat → Nat) (cap : Nat → Nat) (I : Nat → Nat → Int32) (J : Nat → Nat → Int64) : Wd y ad cap I J = Wg y ad cap cap I J := rfl
theorem wg_38 (y : Nat → ClassId) (ad : Nat → Nat) (cap : Nat → Nat) (ρ : Nat → Nat) (I : Nat → Nat → Int32) (J : Nat → Nat → Int64) (ext : va_W) : (Wg y ad cap ρ I J ++ ext)[38]? = some (ad 38, .inr (6, [.int (I 38 0), .int (I 38 1), .ref (ρ 39), .ref (ρ 40), .ref (ρ 41), .ref (ρ 42), .ref (ρ 43), .ref (ρ 44), .ref (ρ 45), .ref (ad 46), .ref (ad 47)])) := rfl
theorem wg_39 (y : Nat → ClassId) (ad : Nat → Nat) (cap : Nat → Nat) (ρ : Nat → Nat) (I : Nat → Nat → Int32) (J : Nat → Nat → Int64) (ext : va_W) : (Wg y ad cap ρ I J ++ ext)[39]? = some (cap 39, .inl (y 0, (cap 0), .inl (I 39))) := rfl
theorem wgp_39 (y : Nat → ClassId) (ad : Nat → Nat) (cap : Nat → Nat) (ρ : Nat → Nat) (I : Nat → Nat → Int32) (J : Nat → Nat → Int64) (ext : va_W) (q : Nat) : (Wg y ad cap ρ I J ++ ext).set 38 (ad 38, .inr (6, [.int (I 38 0), .int (I 38 1), .ref (ρ 39), .ref (ρ 40), .ref (ρ 41), .ref (ρ 42), .ref (ρ 43), .ref (ρ 44), .ref (ρ 45), .ref (ad 46), .ref (ad 47)].set 2 (.ref q))) = Wg y ad cap (va_up ρ 39 q) I J ++ ext := rfl
theorem wg_40 (y : Nat → ClassId) (ad : Nat → Nat) (cap : Nat → Nat) (ρ : Nat → Nat) (I : Nat → Nat → Int32) (J : Nat → Nat → Int64) (ext : va_W) : (Wg y ad cap ρ I J ++ ext)[40]? = some (cap 40, .inl (y 0, (cap 0), .inl (I 40))) := rfl
theorem wgp_40 (y : Nat → ClassId) (ad : Nat → Nat) (cap : Nat → Nat) (ρ : Nat → Nat) (I : Nat → Nat → Int32) (J : Nat → Nat → Int64) (ext : va_W) (q : Nat) : (Wg y ad cap ρ I J ++ ext).set 38 (ad 38, .inr (6, [.int (I 38 0), .int (I 38 1), .ref (ρ 39), .ref (ρ 40), .ref (ρ 41), .ref (ρ 42), .ref (ρ 43), .ref (ρ 44), .ref (ρ 45), .ref (ad 46), .ref (ad 47)].set 3 (.ref q))) = Wg y ad cap (va_up ρ 40 q) I J ++ ext := rfl
theorem wg_41 (y : Nat → ClassId) (ad : Nat → Nat) (cap : Nat → Nat) (ρ : Nat → Nat) (I : Nat → Nat → Int32) (J : Nat → Nat → Int64) (ext : va_W) : (Wg y ad cap ρ I J ++ ext)[41]? = some (cap 41, .inl (y 0, (cap 0), .inl (I 41))) := rfl
theorem wgp_41 (y : Nat → ClassId) (ad : Nat → Nat) (cap : Nat → Nat) (ρ : Nat → Nat) (I : Nat → Nat → Int32) (J : Nat → Nat → Int64) (ext : va_W) (q : Nat) : (Wg y ad cap ρ I J ++ ext).set 38 (ad 38, .inr (6, [.int (I 38 0), .int (I 38 1), .ref (ρ 39), .ref (ρ 40), .ref (ρ 41), .ref (ρ 42), .ref (ρ 43), .ref (ρ 44), .ref (ρ 45), .ref (ad 46), .ref (ad 47)].set 4 (.ref q))) = Wg y ad cap (va_up ρ 41 q) I J ++ ext := rfl
theorem wg_42 (y : Nat → ClassId) (ad : Nat → Nat) (cap : Nat → Nat) (ρ : Nat → Nat) (I : Nat → Nat → Int32) (J : Nat → Nat → Int64) (ext : va_W) : (Wg y ad cap ρ I J ++ ext)[42]? = some (cap 42, .inl (y 0, (cap 0), .inl (I 42))) := rfl
theorem wgp_42 (y : Nat → ClassId) (ad : Nat → Nat) (cap : Nat → Nat) (ρ : Nat → Nat) (I : Nat → Nat → Int32) (J : Nat → Nat → Int64) (ext : va_W) (q : Nat) : (Wg y ad cap ρ I J ++ ext).set 38 (ad 38, .inr (6, [.int (I 38 0), .int (I 38 1), .ref (ρ 39), .ref (ρ 40), .ref (ρ 41), .ref (ρ 42), .ref (ρ 43), .ref (ρ 44), .ref (ρ 45), .ref (ad 46), .ref (ad 47)].set 5 (.ref q))) = Wg y ad cap (va_up ρ 42 q) I J ++ ext := rfl
theorem wg_43 (y : Nat → ClassId) (ad : Nat → Nat) (cap : Nat → Nat) (ρ : Nat → Nat) (I : Nat → Nat → Int32) (J : Nat → Nat → Int64) (ext : va_W) : (Wg y ad cap ρ I J ++ ext)[43]? = some (cap 43, .inl (y 0, (cap 0), .inl (I 43))) := rfl
theorem wgp_43 (y : Nat → ClassId) (ad : Nat → Nat) (cap : Nat → Nat) (ρ : Nat → Nat) (I : Nat → Nat → Int32) (J : Nat → Nat → Int64) (ext : va_W) (q : Nat) : (Wg y ad cap ρ I J ++ ext).set 38 (ad 38, .inr (6, [.int (I 38 0), .int (I 38 1), .ref (ρ 39), .ref (ρ 40), .ref (ρ 41), .ref (ρ 42), .ref (ρ 43), .ref (ρ 44), .ref (ρ 45), .ref (ad 46), .ref (ad 47)].set 6 (.ref q))) = Wg y ad cap (va_up ρ 43 q) I J ++ ext := rfl
theorem wg_44 (y : Nat → ClassId) (ad : Nat → Nat) (cap : Nat → Nat) (ρ : Nat → Nat) (I : Nat → Nat → Int32) (J : Nat → Nat → Int64) (ext : va_W) : (Wg y ad cap ρ I J ++ ext)[44]? = some (cap 44, .inl (y 0, (cap 0), .inl (I 44))) := rfl
theorem wgp_44 (y : Nat → ClassId) (ad : Nat → Nat) (cap : Nat → Nat) (ρ : Nat → Nat) (I : Nat → Nat → Int32) (J : Nat → Nat → Int64) (ext : va_W) (q : Nat) : (Wg y ad cap ρ I J ++ ext).set 38 (ad 38, .inr (6, [.int (I 38 0), .int (I 38 1), .ref (ρ 39), .ref (ρ 40), .ref (ρ 41), .ref (ρ 42), .ref (ρ 43), .ref (ρ 44), .ref (ρ 45), .ref (ad 46), .ref (ad 47)].set 7 (.ref q))) = Wg y ad cap (va_up ρ 44 q) I J ++ ext := rfl
theorem wg_45 (y : Nat → ClassId) (ad : Nat → Nat) (cap : Nat → Nat) (ρ : Nat → Nat) (I : Nat → Nat → Int32) (J : Nat → Nat → Int64) (ext : va_W) : (Wg y ad cap ρ I J ++ ext)[45]? = some (cap 45, .inl (y 1, (cap 0), .inr (.inl (J 45)))) := rfl
theorem wgp_45 (y : Nat → ClassId) (ad : Nat → Nat) (cap : Nat → Nat) (ρ : Nat → Nat) (I : Nat → Nat → Int32) (J : Nat → Nat → Int64) (ext : va_W) (q : Nat) : (Wg y ad cap ρ I J ++ ext).set 38 (ad 38, .inr (6, [.int (I 38 0), .int (I 38 1), .ref (ρ 39), .ref (ρ 40), .ref (ρ 41), .ref (ρ 42), .ref (ρ 43), .ref (ρ 44), .ref (ρ 45), .ref (ad 46), .ref (ad 47)].set 8 (.ref q))) = Wg y ad cap (va_up ρ 45 q) I J ++ ext := rfl
def gN (c : Nat) : Nat := if c * 2 ≤ 2400 then c * 2 else 2400
set_option maxHeartbeats 4000000 in
set_option maxRecDepth 100000 in
theorem c_X6_grow (l : Launch) (D : va_G) (y : Nat → ClassId) (ad : Nat → Nat) (cap : Nat → Nat) (I : Nat → Nat → Int32) (J : Nat → Nat → Int64) (sz : Nat) (h16 : 16 ≤ cap 0) (h24 : cap 0 < 2400) : Met l yX6_grow [.code yX6_grow cX6_grow 2 none] ({ frames := 2, cells := 7, slots := 7 * gN (cap 0), locals := 62 }) (va_Pc [.ref (ad 38)] (PW D y (Wd y ad cap I J) sz)) (va_Qv (fun u : St4 => ∃ cap' I' J', u = (ad, cap', I', J') ∧ cap' 0 = gN (cap 0) ∧ EqX [39, 40, 41, 42, 43, 44] I I' ∧ EqJ [45] J J' ∧ ∀ t, t < cap 0 → (I' 39 t = I 39 t ∧ I' 40 t = I 40 t ∧ I' 41 t = I 41 t ∧ I' 42 t = I 42 t ∧ I' 43 t = I 43 t ∧ I' 44 t = I 44 t) ∧ J' 45 t = J 45 t) (Aft D (Wt y) (Wd y ad cap I J) sz) (va_A (Wd y ad cap I J) sz)) 7 (7 * gN (cap 0)) (va_A (Wd y ad cap I J) sz) := by
  refine Met.ofW (cc := cX6_grow) (maxL := 2) (ret := none) (by decide) rfl ?_
  intro p e s m args below meth c s₁ B hml hv
  obtain ⟨rfl, rfl, hP, hD0, hO⟩ := hv
  have hx := B.exec
  have hb := B.bytes
  have hr := B.returns
  have hown : s.vm.findClass RX6 = some m.cls := findClass_of_methodNamed B.named
  have hlocks := B.notSynchronized
  have hK := hO.1
  have hts : ∀ w ∈ lw_E, w.before ([.ref (ad 38)] : List Value).toArray s = true := fun w h => hO.2 w h _
  clear B
  have hD := hD0.self (sz := s.heap.size)
  generalize hAe : va_A (Wd y ad cap I J) s.heap.size = A at hD ⊢
  have hA : ∀ q : Nat, s.heap.size ≤ q → A q := fun q h => by rw [← hAe]; exact Or.inr h
  have hS : va_S A s.heap s.heap [] := va_S.rf
  have hl := lv_entry ([.ref (ad 38)]) (n := 2) (Nat.le_of_ble_eq_true rfl)
  rw [lg_entry_eq]
  generalize (lg_sl ([.ref (ad 38)]) ++ List.replicate (2 - (lg_sl ([.ref (ad 38)])).length) Slot.unset).toArray = ls at hl ⊢
  have hl : lv_has ls 2 [(0, .ref (ad 38))] := hl
  have hgN : cap 0 < gN (cap 0) ∧ gN (cap 0) ≤ 2400 := by unfold gN; split <;> omega
  refine lv_sipush (v := 2400) hx hb dX6_grow_0 (by decide) ?_
  refine lv_aload_n hx hb dX6_grow_3 rfl (lv_at hl 0 rfl) ?_
  refine va_get (D := D) (T := TX6) (N := 11) hx hb hts jnX6 hown hK hP 38 (wd_38 y ad cap I J) rfl 2 (by decide) (hts _ fl_X6_18) (fun _ h9 => h9) rfl dX6_grow_4 ?_
  refine va_alen (D := D) (v := nI (cap 0)) hx hb hK hP 39 0 (wd_39 y ad cap I J) rfl rfl dX6_grow_7 ?_
  refine lv_iconst (v := 2) hx hb dX6_grow_8 (by decide) ?_
  refine lv_imul hx hb dX6_grow_9 ?_
  rw [show (2 : Int32) = nI 2 from rfl, pk_mul]
  refine va_mmin hx hb (by rw [hml]; exact hl.1.symm) hown (hts _ ml_X6_64) (hts _ sc_J9_min_7cf53) (hts _ ini_J9) (hts _ cd_J9_min_7cf53) (Nat.le_of_ble_eq_true rfl) (Nat.le_of_ble_eq_true rfl) (Nat.zero_le _) (Nat.zero_le _) dX6_grow_10 ?_
  have eN : (if nI (cap 0 * 2) < 2400 then nI (cap 0 * 2) else 2400) = nI (gN (cap 0)) := by
    rw [show (2400 : Int32) = nI 2400 from rfl]
    unfold gN
    by_cases h9 : cap 0 * 2 < 2400
    · rw [if_pos ((nI_ltI (by omega) (by omega)).mpr h9), if_pos (by omega)]
    · rw [if_neg (fun h8 => h9 ((nI_ltI (by omega) (by omega)).mp h8))]
      by_cases h7 : cap 0 * 2 = 2400
      · rw [if_pos (by omega), h7]
      · rw [if_neg (by omega)]
  rw [eN]
  refine lv_istore_n (lv' := [(1, .int (nI (gN (cap 0)))), (0, .ref (ad 38))]) hx hb dX6_grow_13 rfl hl (by decide) rfl (fun ls hl => ?_)
  have hP : va_P D vwCl (Wg y ad cap cap I J ++ []) s.heap := by rw [List.append_nil]; exact hP
  have hD : va_D A (Wg y ad cap cap I J ++ []) := by rw [List.append_nil]; exact hD
  refine lv_aload_n hx hb dX6_grow_14 rfl (lv_at hl 1 rfl) ?_
  refine lv_aload_n hx hb dX6_grow_15 rfl (lv_at hl 1 rfl) ?_
  refine va_get (D := D) (v := .ref (cap 39)) (T := TX6) (N := 11) hx hb hts jnX6 hown hK hP 38 (wg_38 y ad cap cap I J []) rfl 2 (by decide) (hts _ fl_X6_18) (fun _ h9 => h9) rfl dX6_grow_16 ?_
  refine lv_iload_n hx hb dX6_grow_19 rfl (lv_at hl 0 rfl) ?_
  refine va_callr (run_s (As := [.ref (cap 39), .int (nI (gN (cap 0)))]) (rest := [.ref (ad 38)]) hx hb hml hown hO.2 (c_copyI l D y s.heap.size (wg_39 y ad cap cap I J []) hgN.1 hgN.2) k_J7_copyOf_59c91 ml_X6_69 ⟨rfl, rfl⟩ ⟨Nat.le_of_ble_eq_true rfl, Nat.le_of_ble_eq_true rfl⟩ (pre_SW hO hP hD) rfl hl.1 rfl (Nat.le_of_ble_eq_true rfl) dX6_grow_20 ⟨by show 0 + 1 ≤ 7; omega, by show 0 + gN (cap 0) ≤ 7 * gN (cap 0); omega⟩) hS (fun q _ h => free_all hD hS hA q h) (free_all hD hS hA) (fun _ q39 t H1 locs ht _ _ hB _ _ hS1 => ?_)
  have hD2 := hB.2.weaken (B := A) (fun _ z _ h => free_all hD hS hA z.1 h)
  obtain ⟨hP, -⟩ := hB
  rw [ht, List.append_assoc] at hP
  rw [List.append_assoc] at hD2
  have hP : va_P D vwCl (Wg y ad cap cap I J ++ [(q39, .inl (y 0, gN (cap 0), .inl (va_cpy (I 39) (fun _ => 0) 0 0 (cap 0))))]) H1 := hP
  have hD : va_D A (Wg y ad cap cap I J ++ [(q39, .inl (y 0, gN (cap 0), .inl (va_cpy (I 39) (fun _ => 0) 0 0 (cap 0))))]) := hD2
  have hS := hS1
  clear hS1 hD2
  refine W.widen (k := 1) (n := 1 * gN (cap 0)) (by omega) (by omega) ?_
  refine va_put (D := D) (T := TX6) (N := 11) (v := .ref q39) (ty := .array .int) hx hb hts jnX6 tyX6 tyX6_ok nmX6 hown hK hP hD hS 38 (wg_38 y ad cap cap I J [(q39, .inl (y 0, gN (cap 0), .inl (va_cpy (I 39) (fun _ => 0) 0 0 (cap 0))))]) rfl 2 (by decide) (hts _ fl_X6_18) (fun _ h9 => h9) rfl (by decide +kernel) rfl rfl (Nat.le_of_ble_eq_true rfl) dX6_grow_23 (fun H locs hP hD hS => ?_)
  rw [wgp_39] at hP hD
  refine lv_aload_n hx hb dX6_grow_26 rfl (lv_at hl 1 rfl) ?_
  refine lv_aload_n hx hb dX6_grow_27 rfl (lv_at hl 1 rfl) ?_
  refine va_get (D := D) (v := .ref (cap 40)) (T := TX6) (N := 11) hx hb hts jnX6 hown hK hP 38 (wg_38 y ad cap (va_up cap 39 q39) I J [(q39, .inl (y 0, gN (cap 0), .inl (va_cpy (I 39) (fun _ => 0) 0 0 (cap 0))))]) rfl 3 (by decide) (hts _ fl_X6_22) (fun _ h9 => h9) rfl dX6_grow_28 ?_
  refine lv_iload_n hx hb dX6_grow_31 rfl (lv_at hl 0 rfl) ?_
  refine va_callr (run_s (As := [.ref (cap 40), .int (nI (gN (cap 0)))]) (rest := [.ref (ad 38)]) hx hb hml hown hO.2 (c_copyI l D y H.size (wg_40 y ad cap (va_up cap 39 q39) I J [(q39, .inl (y 0, gN (cap 0), .inl (va_cpy (I 39) (fun _ => 0) 0 0 (cap 0))))]) hgN.1 hgN.2) k_J7_copyOf_59c91 ml_X6_69 ⟨rfl, rfl⟩ ⟨Nat.le_of_ble_eq_true rfl, Nat.le_of_ble_eq_true rfl⟩ (pre_SW hO hP hD) rfl hl.1 rfl (Nat.le_of_ble_eq_true rfl) dX6_grow_32 ⟨by show 1 + 1 ≤ 7; omega, by show 1 * gN (cap 0) + gN (cap 0) ≤ 7 * gN (cap 0); omega⟩) hS (fun q _ h => free_all hD hS hA q h) (free_all hD hS hA) (fun _ q40 t H1 locs ht _ _ hB _ _ hS1 => ?_)
  have hD2 := hB.2.weaken (B := A) (fun _ z _ h => free_all hD hS hA z.1 h)
  obtain ⟨hP, -⟩ := hB
  rw [ht, List.append_assoc] at hP
  rw [List.append_assoc] at hD2
  have hP : va_P D vwCl (Wg y ad cap (va_up cap 39 q39) I J ++ [(q39, .inl (y 0, gN (cap 0), .inl (va_cpy (I 39) (fun _ => 0) 0 0 (cap 0)))), (q40, .inl (y 0, gN (cap 0), .inl (va_cpy (I 40) (fun _ => 0) 0 0 (cap 0))))]) H1 := hP
  have hD : va_D A (Wg y ad cap (va_up cap 39 q39) I J ++ [(q39, .inl (y 0, gN (cap 0), .inl (va_cpy (I 39) (fun _ => 0) 0 0 (cap 0)))), (q40, .inl (y 0, gN (cap 0), .inl (va_cpy (I 40) (fun _ => 0) 0 0 (cap 0))))]) := hD2
  have hS := hS1
  clear hS1 hD2
  refine W.widen (k := 2) (n := 2 * gN (cap 0)) (by omega) (by omega) ?_
  refine va_put (D := D) (T := TX6) (N := 11) (v := .ref q40) (ty := .array .int) hx hb hts jnX6 tyX6 tyX6_ok nmX6 hown hK hP hD hS 38 (wg_38 y ad cap (va_up cap 39 q39) I J [(q39, .inl (y 0, gN (cap 0), .inl (va_cpy (I 39) (fun _ => 0) 0 0 (cap 0)))), (q40, .inl (y 0, gN (cap 0), .inl (va_cpy (I 40) (fun _ => 0) 0 0 (cap 0))))]) rfl 3 (by decide) (hts _ fl_X6_22) (fun _ h9 => h9) rfl (by decide +kernel) rfl rfl (Nat.le_of_ble_eq_true rfl) dX6_grow_35 (fun H locs hP hD hS => ?_)
  rw [wgp_40] at hP hD
  refine lv_aload_n hx hb dX6_grow_38 rfl (lv_at hl 1 rfl) ?_
  refine lv_aload_n hx hb dX6_grow_39 rfl (lv_at hl 1 rfl) ?_
  refine va_get (D := D) (v := .ref (cap 41)) (T := TX6) (N := 11) hx hb hts jnX6 hown hK hP 38 (wg_38 y ad cap (va_up (va_up cap 39 q39) 40 q40) I J [(q39, .inl (y 0, gN (cap 0), .inl (va_cpy (I 39) (fun _ => 0) 0 0 (cap 0)))), (q40, .inl (y 0, gN (cap 0), .inl (va_cpy (I 40) (fun _ => 0) 0 0 (cap 0))))]) rfl 4 (by decide) (hts _ fl_X6_25) (fun _ h9 => h9) rfl dX6_grow_40 ?_
  refine lv_iload_n hx hb dX6_grow_43 rfl (lv_at hl 0 rfl) ?_
  refine va_callr (run_s (As := [.ref (cap 41), .int (nI (gN (cap 0)))]) (rest := [.ref (ad 38)]) hx hb hml hown hO.2 (c_copyI l D y H.size (wg_41 y ad cap (va_up (va_up cap 39 q39) 40 q40) I J [(q39, .inl (y 0, gN (cap 0), .inl (va_cpy (I 39) (fun _ => 0) 0 0 (cap 0)))), (q40, .inl (y 0, gN (cap 0), .inl (va_cpy (I 40) (fun _ => 0) 0 0 (cap 0))))]) hgN.1 hgN.2) k_J7_copyOf_59c91 ml_X6_69 ⟨rfl, rfl⟩ ⟨Nat.le_of_ble_eq_true rfl, Nat.le_of_ble_eq_true rfl⟩ (pre_SW hO hP hD) rfl hl.1 rfl (Nat.le_of_ble_eq_true rfl) dX6_grow_44 ⟨by show 2 + 1 ≤ 7; omega, by show 2 * gN (cap 0) + gN (cap 0) ≤ 7 * gN (cap 0); omega⟩) hS (fun q _ h => free_all hD hS hA q h) (free_all hD hS hA) (fun _ q41 t H1 locs ht _ _ hB _ _ hS1 => ?_)
  have hD2 := hB.2.weaken (B := A) (fun _ z _ h => free_all hD hS hA z.1 h)
  obtain ⟨hP, -⟩ := hB
  rw [ht, List.append_assoc] at hP
  rw [List.append_assoc] at hD2
  have hP : va_P D vwCl (Wg y ad cap (va_up (va_up cap 39 q39) 40 q40) I J ++ [(q39, .inl (y 0, gN (cap 0), .inl (va_cpy (I 39) (fun _ => 0) 0 0 (cap 0)))), (q40, .inl (y 0, gN (cap 0), .inl (va_cpy (I 40) (fun _ => 0) 0 0 (cap 0)))), (q41, .inl (y 0, gN (cap 0), .inl (va_cpy (I 41) (fun _ => 0) 0 0 (cap 0))))]) H1 := hP
  have hD : va_D A (Wg y ad cap (va_up (va_up cap 39 q39) 40 q40) I J ++ [(q39, .inl (y 0, gN (cap 0), .inl (va_cpy (I 39) (fun _ => 0) 0 0 (cap 0)))), (q40, .inl (y 0, gN (cap 0), .inl (va_cpy (I 40) (fun _ => 0) 0 0 (cap 0)))), (q41, .inl (y 0, gN (cap 0), .inl (va_cpy (I 41) (fun _ => 0) 0 0 (cap 0))))]) := hD2
  have hS := hS1
  clear hS1 hD2
  refine W.widen (k := 3) (n := 3 * gN (cap 0)) (by omega) (by omega) ?_
  refine va_put (D := D) (T := TX6) (N := 11) (v := .ref q41) (ty := .array .int) hx hb hts jnX6 tyX6 tyX6_ok nmX6 hown hK hP hD hS 38 (wg_38 y ad cap (va_up (va_up cap 39 q39) 40 q40) I J [(q39, .inl (y 0, gN (cap 0), .inl (va_cpy (I 39) (fun _ => 0) 0 0 (cap 0)))), (q40, .inl (y 0, gN (cap 0), .inl (va_cpy (I 40) (fun _ => 0) 0 0 (cap 0)))), (q41, .inl (y 0, gN (cap 0), .inl (va_cpy (I 41) (fun _ => 0) 0 0 (cap 0))))]) rfl 4 (by decide) (hts _ fl_X6_25) (fun _ h9 => h9) rfl (by decide +kernel) rfl rfl (Nat.le_of_ble_eq_true rfl) dX6_grow_47 (fun H locs hP hD hS => ?_)
  rw [wgp_41] at hP hD
  refine lv_aload_n hx hb dX6_grow_50 rfl (lv_at hl 1 rfl) ?_
  refine lv_aload_n hx hb dX6_grow_51 rfl (lv_at hl 1 rfl) ?_
  refine va_get (D := D) (v := .ref (cap 42)) (T := TX6) (N := 11) hx hb hts jnX6 hown hK hP 38 (wg_38 y ad cap (va_up (va_up (va_up cap 39 q39) 40 q40) 41 q41) I J [(q39, .inl (y 0, gN (cap 0), .inl (va_cpy (I 39) (fun _ => 0) 0 0 (cap 0)))), (q40, .inl (y 0, gN (cap 0), .inl (va_cpy (I 40) (fun _ => 0) 0 0 (cap 0)))), (q41, .inl (y 0, gN (cap 0), .inl (va_cpy (I 41) (fun _ => 0) 0 0 (cap 0))))]) rfl 5 (by decide) (hts _ fl_X6_28) (fun _ h9 => h9) rfl dX6_grow_52 ?_
  refine lv_iload_n hx hb dX6_grow_55 rfl (lv_at hl 0 rfl) ?_
  refine va_callr (run_s (As := [.ref (cap 42), .int (nI (gN (cap 0)))]) (rest := [.ref (ad 38)]) hx hb hml hown hO.2 (c_copyI l D y H.size (wg_42 y ad cap (va_up (va_up (va_up cap 39 q39) 40 q40) 41 q41) I J [(q39, .inl (y 0, gN (cap 0), .inl (va_cpy (I 39) (fun _ => 0) 0 0 (cap 0)))), (q40, .inl (y 0, gN (cap 0), .inl (va_cpy (I 40) (fun _ => 0) 0 0 (cap 0)))), (q41, .inl (y 0, gN (cap 0), .inl (va_cpy (I 41) (fun _ => 0) 0 0 (cap 0))))]) hgN.1 hgN.2) k_J7_copyOf_59c91 ml_X6_69 ⟨rfl, rfl⟩ ⟨Nat.le_of_ble_eq_true rfl, Nat.le_of_ble_eq_true rfl⟩ (pre_SW hO hP hD) rfl hl.1 rfl (Nat.le_of_ble_eq_true rfl) dX6_grow_56 ⟨by show 3 + 1 ≤ 7; omega, by show 3 * gN (cap 0) + gN (cap 0) ≤ 7 * gN (cap 0); omega⟩) hS (fun q _ h => free_all hD hS hA q h) (free_all hD hS hA) (fun _ q42 t H1 locs ht _ _ hB _ _ hS1 => ?_)
  have hD2 := hB.2.weaken (B := A) (fun _ z _ h => free_all hD hS hA z.1 h)
  obtain ⟨hP, -⟩ := hB
  rw [ht, List.append_assoc] at hP
  rw [List.append_assoc] at hD2
  have hP : va_P D vwCl (Wg y ad cap (va_up (va_up (va_up cap 39 q39) 40 q40) 41 q41) I J ++ [(q39, .inl (y 0, gN (cap 0), .inl (va_cpy (I 39) (fun _ => 0) 0 0 (cap 0)))), (q40, .inl (y 0, gN (cap 0), .inl (va_cpy (I 40) (fun _ => 0) 0 0 (cap 0)))), (q41, .inl (y 0, gN (cap 0), .inl (va_cpy (I 41) (fun _ => 0) 0 0 (cap 0)))), (q42, .inl (y 0, gN (cap 0), .inl (va_cpy (I 42) (fun _ => 0) 0 0 (cap 0))))]) H1 := hP
  have hD : va_D A (Wg y ad cap (va_up (va_up (va_up cap 39 q39) 40 q40) 41 q41) I J ++ [(q39, .inl (y 0, gN (cap 0), .inl (va_cpy (I 39) (fun _ => 0) 0 0 (cap 0)))), (q40, .inl (y 0, gN (cap 0), .inl (va_cpy (I 40) (fun _ => 0) 0 0 (cap 0)))), (q41, .inl (y 0, gN (cap 0), .inl (va_cpy (I 41) (fun _ => 0) 0 0 (cap 0)))), (q42, .inl (y 0, gN (cap 0), .inl (va_cpy (I 42) (fun _ => 0) 0 0 (cap 0))))]) := hD2
  have hS := hS1
  clear hS1 hD2
  refine W.widen (k := 4) (n := 4 * gN (cap 0)) (by omega) (by omega) ?_
  refine va_put (D := D) (T := TX6) (N := 11) (v := .ref q42) (ty := .array .int) hx hb hts jnX6 tyX6 tyX6_ok nmX6 hown hK hP hD hS 38 (wg_38 y ad cap (va_up (va_up (va_up cap 39 q39) 40 q40) 41 q41) I J [(q39, .inl (y 0, gN (cap 0), .inl (va_cpy (I 39) (fun _ => 0) 0 0 (cap 0)))), (q40, .inl (y 0, gN (cap 0), .inl (va_cpy (I 40) (fun _ => 0) 0 0 (cap 0)))), (q41, .inl (y 0, gN (cap 0), .inl (va_cpy (I 41) (fun _ => 0) 0 0 (cap 0)))), (q42, .inl (y 0, gN (cap 0), .inl (va_cpy (I 42) (fun _ => 0) 0 0 (cap 0))))]) rfl 5 (by decide) (hts _ fl_X6_28) (fun _ h9 => h9) rfl (by decide +kernel) rfl rfl (Nat.le_of_ble_eq_true rfl) dX6_grow_59 (fun H locs hP hD hS => ?_)
  rw [wgp_42] at hP hD
  refine lv_aload_n hx hb dX6_grow_62 rfl (lv_at hl 1 rfl) ?_
  refine lv_aload_n hx hb dX6_grow_63 rfl (lv_at hl 1 rfl) ?_
  refine va_get (D := D) (v := .ref (cap 43)) (T := TX6) (N := 11) hx hb hts jnX6 hown hK hP 38 (wg_38 y ad cap (va_up (va_up (va_up (va_up cap 39 q39) 40 q40) 41 q41) 42 q42) I J [(q39, .inl (y 0, gN (cap 0), .inl (va_cpy (I 39) (fun _ => 0) 0 0 (cap 0)))), (q40, .inl (y 0, gN (cap 0), .inl (va_cpy (I 40) (fun _ => 0) 0 0 (cap 0)))), (q41, .inl (y 0, gN (cap 0), .inl (va_cpy (I 41) (fun _ => 0) 0 0 (cap 0)))), (q42, .inl (y 0, gN (cap 0), .inl (va_cpy (I 42) (fun _ => 0) 0 0 (cap 0))))]) rfl 6 (by decide) (hts _ fl_X6_31) (fun _ h9 => h9) rfl dX6_grow_64 ?_
  refine lv_iload_n hx hb dX6_grow_67 rfl (lv_at hl 0 rfl) ?_
  refine va_callr (run_s (As := [.ref (cap 43), .int (nI (gN (cap 0)))]) (rest := [.ref (ad 38)]) hx hb hml hown hO.2 (c_copyI l D y H.size (wg_43 y ad cap (va_up (va_up (va_up (va_up cap 39 q39) 40 q40) 41 q41) 42 q42) I J [(q39, .inl (y 0, gN (cap 0), .inl (va_cpy (I 39) (fun _ => 0) 0 0 (cap 0)))), (q40, .inl (y 0, gN (cap 0), .inl (va_cpy (I 40) (fun _ => 0) 0 0 (cap 0)))), (q41, .inl (y 0, gN (cap 0), .inl (va_cpy (I 41) (fun _ => 0) 0 0 (cap 0)))), (q42, .inl (y 0, gN (cap 0), .inl (va_cpy (I 42) (fun _ => 0) 0 0 (cap 0))))]) hgN.1 hgN.2) k_J7_copyOf_59c91 ml_X6_69 ⟨rfl, rfl⟩ ⟨Nat.le_of_ble_eq_true rfl, Nat.le_of_ble_eq_true rfl⟩ (pre_SW hO hP hD) rfl hl.1 rfl (Nat.le_of_ble_eq_true rfl) dX6_grow_68 ⟨by show 4 + 1 ≤ 7; omega, by show 4 * gN (cap 0) + gN (cap 0) ≤ 7 * gN (cap 0); omega⟩) hS (fun q _ h => free_all hD hS hA q h) (free_all hD hS hA) (fun _ q43 t H1 locs ht _ _ hB _ _ hS1 => ?_)
  have hD2 := hB.2.weaken (B := A) (fun _ z _ h => free_all hD hS hA z.1 h)
  obtain ⟨hP, -⟩ := hB
  rw [ht, List.append_assoc] at hP
  rw [List.append_assoc] at hD2
  have hP : va_P D vwCl (Wg y ad cap (va_up (va_up (va_up (va_up cap 39 q39) 40 q40) 41 q41) 42 q42) I J ++ [(q39, .inl (y 0, gN (cap 0), .inl (va_cpy (I 39) (fun _ => 0) 0 0 (cap 0)))), (q40, .inl (y 0, gN (cap 0), .inl (va_cpy (I 40) (fun _ => 0) 0 0 (cap 0)))), (q41, .inl (y 0, gN (cap 0), .inl (va_cpy (I 41) (fun _ => 0) 0 0 (cap 0)))), (q42, .inl (y 0, gN (cap 0), .inl (va_cpy (I 42) (fun _ => 0) 0 0 (cap 0)))), (q43, .inl (y 0, gN (cap 0), .inl (va_cpy (I 43) (fun _ => 0) 0 0 (cap 0))))]) H1 := hP
  have hD : va_D A (Wg y ad cap (va_up (va_up (va_up (va_up cap 39 q39) 40 q40) 41 q41) 42 q42) I J ++ [(q39, .inl (y 0, gN (cap 0), .inl (va_cpy (I 39) (fun _ => 0) 0 0 (cap 0)))), (q40, .inl (y 0, gN (cap 0), .inl (va_cpy (I 40) (fun _ => 0) 0 0 (cap 0)))), (q41, .inl (y 0, gN (cap 0), .inl (va_cpy (I 41) (fun _ => 0) 0 0 (cap 0)))), (q42, .inl (y 0, gN (cap 0), .inl (va_cpy (I 42) (fun _ => 0) 0 0 (cap 0)))), (q43, .inl (y 0, gN (cap 0), .inl (va_cpy (I 43) (fun _ => 0) 0 0 (cap 0))))]) := hD2
  have hS := hS1
  clear hS1 hD2
  refine W.widen (k := 5) (n := 5 * gN (cap 0)) (by omega) (by omega) ?_
  refine va_put (D := D) (T := TX6) (N := 11) (v := .ref q43) (ty := .array .int) hx hb hts jnX6 tyX6 tyX6_ok nmX6 hown hK hP hD hS 38 (wg_38 y ad cap (va_up (va_up (va_up (va_up cap 39 q39) 40 q40) 41 q41) 42 q42) I J [(q39, .inl (y 0, gN (cap 0), .inl (va_cpy (I 39) (fun _ => 0) 0 0 (cap 0)))), (q40, .inl (y 0, gN (cap 0), .inl (va_cpy (I 40) (fun _ => 0) 0 0 (cap 0)))), (q41, .inl (y 0, gN (cap 0), .inl (va_cpy (I 41) (fun _ => 0) 0 0 (cap 0)))), (q42, .inl (y 0, gN (cap 0), .inl (va_cpy (I 42) (fun _ => 0) 0 0 (cap 0)))), (q43, .inl (y 0, gN (cap 0), .inl (va_cpy (I 43) (fun _ => 0) 0 0 (cap 0))))]) rfl 6 (by decide) (hts _ fl_X6_31) (fun _ h9 => h9) rfl (by decide +kernel) rfl rfl (Nat.le_of_ble_eq_true rfl) dX6_grow_71 (fun H locs hP hD hS => ?_)
  rw [wgp_43] at hP hD
  refine lv_aload_n hx hb dX6_grow_74 rfl (lv_at hl 1 rfl) ?_
  refine lv_aload_n hx hb dX6_grow_75 rfl (lv_at hl 1 rfl) ?_
  refine va_get (D := D) (v := .ref (cap 44)) (T := TX6) (N := 11) hx hb hts jnX6 hown hK hP 38 (wg_38 y ad cap (va_up (va_up (va_up (va_up (va_up cap 39 q39) 40 q40) 41 q41) 42 q42) 43 q43) I J [(q39, .inl (y 0, gN (cap 0), .inl (va_cpy (I 39) (fun _ => 0) 0 0 (cap 0)))), (q40, .inl (y 0, gN (cap 0), .inl (va_cpy (I 40) (fun _ => 0) 0 0 (cap 0)))), (q41, .inl (y 0, gN (cap 0), .inl (va_cpy (I 41) (fun _ => 0) 0 0 (cap 0)))), (q42, .inl (y 0, gN (cap 0), .inl (va_cpy (I 42) (fun _ => 0) 0 0 (cap 0)))), (q43, .inl (y 0, gN (cap 0), .inl (va_cpy (I 43) (fun _ => 0) 0 0 (cap 0))))]) rfl 7 (by decide) (hts _ fl_X6_34) (fun _ h9 => h9) rfl dX6_grow_76 ?_
  refine lv_iload_n hx hb dX6_grow_79 rfl (lv_at hl 0 rfl) ?_
  refine va_callr (run_s (As := [.ref (cap 44), .int (nI (gN (cap 0)))]) (rest := [.ref (ad 38)]) hx hb hml hown hO.2 (c_copyI l D y H.size (wg_44 y ad cap (va_up (va_up (va_up (va_up (va_up cap 39 q39) 40 q40) 41 q41) 42 q42) 43 q43) I J [(q39, .inl (y 0, gN (cap 0), .inl (va_cpy (I 39) (fun _ => 0) 0 0 (cap 0)))), (q40, .inl (y 0, gN (cap 0), .inl (va_cpy (I 40) (fun _ => 0) 0 0 (cap 0)))), (q41, .inl (y 0, gN (cap 0), .inl (va_cpy (I 41) (fun _ => 0) 0 0 (cap 0)))), (q42, .inl (y 0, gN (cap 0), .inl (va_cpy (I 42) (fun _ => 0) 0 0 (cap 0)))), (q43, .inl (y 0, gN (cap 0), .inl (va_cpy (I 43) (fun _ => 0) 0 0 (cap 0))))]) hgN.1 hgN.2) k_J7_copyOf_59c91 ml_X6_69 ⟨rfl, rfl⟩ ⟨Nat.le_of_ble_eq_true rfl, Nat.le_of_ble_eq_true rfl⟩ (pre_SW hO hP hD) rfl hl.1 rfl (Nat.le_of_ble_eq_true rfl) dX6_grow_80 ⟨by show 5 + 1 ≤ 7; omega, by show 5 * gN (cap 0) + gN (cap 0) ≤ 7 * gN (cap 0); omega⟩) hS (fun q _ h => free_all hD hS hA q h) (free_all hD hS hA) (fun _ q44 t H1 locs ht _ _ hB _ _ hS1 => ?_)
  have hD2 := hB.2.weaken (B := A) (fun _ z _ h => free_all hD hS hA z.1 h)
  obtain ⟨hP, -⟩ := hB
  rw [ht, List.append_assoc] at hP
  rw [List.append_assoc] at hD2
  have hP : va_P D vwCl (Wg y ad cap (va_up (va_up (va_up (va_up (va_up cap 39 q39) 40 q40) 41 q41) 42 q42) 43 q43) I J ++ [(q39, .inl (y 0, gN (cap 0), .inl (va_cpy (I 39) (fun _ => 0) 0 0 (cap 0)))), (q40, .inl (y 0, gN (cap 0), .inl (va_cpy (I 40) (fun _ => 0) 0 0 (cap 0)))), (q41, .inl (y 0, gN (cap 0), .inl (va_cpy (I 41) (fun _ => 0) 0 0 (cap 0)))), (q42, .inl (y 0, gN (cap 0), .inl (va_cpy (I 42) (fun _ => 0) 0 0 (cap 0)))), (q43, .inl (y 0, gN (cap 0), .inl (va_cpy (I 43) (fun _ => 0) 0 0 (cap 0)))), (q44, .inl (y 0, gN (cap 0), .inl (va_cpy (I 44) (fun _ => 0) 0 0 (cap 0))))]) H1 := hP
  have hD : va_D A (Wg y ad cap (va_up (va_up (va_up (va_up (va_up cap 39 q39) 40 q40) 41 q41) 42 q42) 43 q43) I J ++ [(q39, .inl (y 0, gN (cap 0), .inl (va_cpy (I 39) (fun _ => 0) 0 0 (cap 0)))), (q40, .inl (y 0, gN (cap 0), .inl (va_cpy (I 40) (fun _ => 0) 0 0 (cap 0)))), (q41, .inl (y 0, gN (cap 0), .inl (va_cpy (I 41) (fun _ => 0) 0 0 (cap 0)))), (q42, .inl (y 0, gN (cap 0), .inl (va_cpy (I 42) (fun _ => 0) 0 0 (cap 0)))), (q43, .inl (y 0, gN (cap 0), .inl (va_cpy (I 43) (fun _ => 0) 0 0 (cap 0)))), (q44, .inl (y 0, gN (cap 0), .inl (va_cpy (I 44) (fun _ => 0) 0 0 (cap 0))))]) := hD2
  have hS := hS1
  clear hS1 hD2
  refine W.widen (k := 6) (n := 6 * gN (cap 0)) (by omega) (by omega) ?_
  refine va_put (D := D) (T := TX6) (N := 11) (v := .ref q44) (ty := .array .int) hx hb hts jnX6 tyX6 tyX6_ok nmX6 hown hK hP hD hS 38 (wg_38 y ad cap (va_up (va_up (va_up (va_up (va_up cap 39 q39) 40 q40) 41 q41) 42 q42) 43 q43) I J [(q39, .inl (y 0, gN (cap 0), .inl (va_cpy (I 39) (fun _ => 0) 0 0 (cap 0)))), (q40, .inl (y 0, gN (cap 0), .inl (va_cpy (I 40) (fun _ => 0) 0 0 (cap 0)))), (q41, .inl (y 0, gN (cap 0), .inl (va_cpy (I 41) (fun _ => 0) 0 0 (cap 0)))), (q42, .inl (y 0, gN (cap 0), .inl (va_cpy (I 42) (fun _ => 0) 0 0 (cap 0)))), (q43, .inl (y 0, gN (cap 0), .inl (va_cpy (I 43) (fun _ => 0) 0 0 (cap 0)))), (q44, .inl (y 0, gN (cap 0), .inl (va_cpy (I 44) (fun _ => 0) 0 0 (cap 0))))]) rfl 7 (by decide) (hts _ fl_X6_34) (fun _ h9 => h9) rfl (by decide +kernel) rfl rfl (Nat.le_of_ble_eq_true rfl) dX6_grow_83 (fun H locs hP hD hS => ?_)
  rw [wgp_44] at hP hD
  refine lv_aload_n hx hb dX6_grow_86 rfl (lv_at hl 1 rfl) ?_
  refine lv_aload_n hx hb dX6_grow_87 rfl (lv_at hl 1 rfl) ?_
  refine va_get (D := D) (v := .ref (cap 45)) (T := TX6) (N := 11) hx hb hts jnX6 hown hK hP 38 (wg_38 y ad cap (va_up (va_up (va_up (va_up (va_up (va_up cap 39 q39) 40 q40) 41 q41) 42 q42) 43 q43) 44 q44) I J [(q39, .inl (y 0, gN (cap 0), .inl (va_cpy (I 39) (fun _ => 0) 0 0 (cap 0)))), (q40, .inl (y 0, gN (cap 0), .inl (va_cpy (I 40) (fun _ => 0) 0 0 (cap 0)))), (q41, .inl (y 0, gN (cap 0), .inl (va_cpy (I 41) (fun _ => 0) 0 0 (cap 0)))), (q42, .inl (y 0, gN (cap 0), .inl (va_cpy (I 42) (fun _ => 0) 0 0 (cap 0)))), (q43, .inl (y 0, gN (cap 0), .inl (va_cpy (I 43) (fun _ => 0) 0 0 (cap 0)))), (q44, .inl (y 0, gN (cap 0), .inl (va_cpy (I 44) (fun _ => 0) 0 0 (cap 0))))]) rfl 8 (by decide) (hts _ fl_X6_37) (fun _ h9 => h9) rfl dX6_grow_88 ?_
  refine lv_iload_n hx hb dX6_grow_91 rfl (lv_at hl 0 rfl) ?_
  refine va_callr (run_s (As := [.ref (cap 45), .int (nI (gN (cap 0)))]) (rest := [.ref (ad 38)]) hx hb hml hown hO.2 (c_copyL l D y H.size (wg_45 y ad cap (va_up (va_up (va_up (va_up (va_up (va_up cap 39 q39) 40 q40) 41 q41) 42 q42) 43 q43) 44 q44) I J [(q39, .inl (y 0, gN (cap 0), .inl (va_cpy (I 39) (fun _ => 0) 0 0 (cap 0)))), (q40, .inl (y 0, gN (cap 0), .inl (va_cpy (I 40) (fun _ => 0) 0 0 (cap 0)))), (q41, .inl (y 0, gN (cap 0), .inl (va_cpy (I 41) (fun _ => 0) 0 0 (cap 0)))), (q42, .inl (y 0, gN (cap 0), .inl (va_cpy (I 42) (fun _ => 0) 0 0 (cap 0)))), (q43, .inl (y 0, gN (cap 0), .inl (va_cpy (I 43) (fun _ => 0) 0 0 (cap 0)))), (q44, .inl (y 0, gN (cap 0), .inl (va_cpy (I 44) (fun _ => 0) 0 0 (cap 0))))]) hgN.1 hgN.2) k_J7_copyOf_c38d5 ml_X6_73 ⟨rfl, rfl⟩ ⟨Nat.le_of_ble_eq_true rfl, Nat.le_of_ble_eq_true rfl⟩ (pre_SW hO hP hD) rfl hl.1 rfl (Nat.le_of_ble_eq_true rfl) dX6_grow_92 ⟨by show 6 + 1 ≤ 7; omega, by show 6 * gN (cap 0) + gN (cap 0) ≤ 7 * gN (cap 0); omega⟩) hS (fun q _ h => free_all hD hS hA q h) (free_all hD hS hA) (fun _ q45 t H1 locs ht _ _ hB _ _ hS1 => ?_)
  have hD2 := hB.2.weaken (B := A) (fun _ z _ h => free_all hD hS hA z.1 h)
  obtain ⟨hP, -⟩ := hB
  rw [ht, List.append_assoc] at hP
  rw [List.append_assoc] at hD2
  have hP : va_P D vwCl (Wg y ad cap (va_up (va_up (va_up (va_up (va_up (va_up cap 39 q39) 40 q40) 41 q41) 42 q42) 43 q43) 44 q44) I J ++ [(q39, .inl (y 0, gN (cap 0), .inl (va_cpy (I 39) (fun _ => 0) 0 0 (cap 0)))), (q40, .inl (y 0, gN (cap 0), .inl (va_cpy (I 40) (fun _ => 0) 0 0 (cap 0)))), (q41, .inl (y 0, gN (cap 0), .inl (va_cpy (I 41) (fun _ => 0) 0 0 (cap 0)))), (q42, .inl (y 0, gN (cap 0), .inl (va_cpy (I 42) (fun _ => 0) 0 0 (cap 0)))), (q43, .inl (y 0, gN (cap 0), .inl (va_cpy (I 43) (fun _ => 0) 0 0 (cap 0)))), (q44, .inl (y 0, gN (cap 0), .inl (va_cpy (I 44) (fun _ => 0) 0 0 (cap 0)))), (q45, .inl (y 1, gN (cap 0), .inr (.inl (va_cpy (J 45) (fun _ => 0) 0 0 (cap 0)))))]) H1 := hP
  have hD : va_D A (Wg y ad cap (va_up (va_up (va_up (va_up (va_up (va_up cap 39 q39) 40 q40) 41 q41) 42 q42) 43 q43) 44 q44) I J ++ [(q39, .inl (y 0, gN (cap 0), .inl (va_cpy (I 39) (fun _ => 0) 0 0 (cap 0)))), (q40, .inl (y 0, gN (cap 0), .inl (va_cpy (I 40) (fun _ => 0) 0 0 (cap 0)))), (q41, .inl (y 0, gN (cap 0), .inl (va_cpy (I 41) (fun _ => 0) 0 0 (cap 0)))), (q42, .inl (y 0, gN (cap 0), .inl (va_cpy (I 42) (fun _ => 0) 0 0 (cap 0)))), (q43, .inl (y 0, gN (cap 0), .inl (va_cpy (I 43) (fun _ => 0) 0 0 (cap 0)))), (q44, .inl (y 0, gN (cap 0), .inl (va_cpy (I 44) (fun _ => 0) 0 0 (cap 0)))), (q45, .inl (y 1, gN (cap 0), .inr (.inl (va_cpy (J 45) (fun _ => 0) 0 0 (cap 0)))))]) := hD2
  have hS := hS1
  clear hS1 hD2
  refine W.widen (k := 7) (n := 7 * gN (cap 0)) (by omega) (by omega) ?_
  refine va_put (D := D) (T := TX6) (N := 11) (v := .ref q45) (ty := .array .long) hx hb hts jnX6 tyX6 tyX6_ok nmX6 hown hK hP hD hS 38 (wg_38 y ad cap (va_up (va_up (va_up (va_up (va_up (va_up cap 39 q39) 40 q40) 41 q41) 42 q42) 43 q43) 44 q44) I J [(q39, .inl (y 0, gN (cap 0), .inl (va_cpy (I 39) (fun _ => 0) 0 0 (cap 0)))), (q40, .inl (y 0, gN (cap 0), .inl (va_cpy (I 40) (fun _ => 0) 0 0 (cap 0)))), (q41, .inl (y 0, gN (cap 0), .inl (va_cpy (I 41) (fun _ => 0) 0 0 (cap 0)))), (q42, .inl (y 0, gN (cap 0), .inl (va_cpy (I 42) (fun _ => 0) 0 0 (cap 0)))), (q43, .inl (y 0, gN (cap 0), .inl (va_cpy (I 43) (fun _ => 0) 0 0 (cap 0)))), (q44, .inl (y 0, gN (cap 0), .inl (va_cpy (I 44) (fun _ => 0) 0 0 (cap 0)))), (q45, .inl (y 1, gN (cap 0), .inr (.inl (va_cpy (J 45) (fun _ => 0) 0 0 (cap 0)))))]) rfl 8 (by decide) (hts _ fl_X6_37) (fun _ h9 => h9) rfl (by decide +kernel) rfl rfl (Nat.le_of_ble_eq_true rfl) dX6_grow_95 (fun H locs hP hD hS => ?_)
  rw [wgp_45] at hP hD
  have hP : va_P D vwCl (Wd y ad (va_up (va_up (va_up (va_up (va_up (va_up (va_up (va_up cap 0 (gN (cap 0))) 39 q39) 40 q40) 41 q41) 42 q42) 43 q43) 44 q44) 45 q45) (va_up (va_up (va_up (va_up (va_up (va_up I 39 (va_cpy (I 39) (fun _ => 0) 0 0 (cap 0))) 40 (va_cpy (I 40) (fun _ => 0) 0 0 (cap 0))) 41 (va_cpy (I 41) (fun _ => 0) 0 0 (cap 0))) 42 (va_cpy (I 42) (fun _ => 0) 0 0 (cap 0))) 43 (va_cpy (I 43) (fun _ => 0) 0 0 (cap 0))) 44 (va_cpy (I 44) (fun _ => 0) 0 0 (cap 0))) (va_up J 45 (va_cpy (J 45) (fun _ => 0) 0 0 (cap 0)))) H := hP.sub [0, 1, 2, 3, 4, 5, 6, 7, 8, 9, 10, 11, 12, 13, 14, 15, 16, 17, 18, 19, 20, 21, 22, 23, 24, 25, 26, 27, 28, 29, 30, 31, 32, 33, 34, 35, 36, 37, 38, 87, 88, 89, 90, 91, 92, 93, 46, 47, 48, 49, 50, 51, 52, 53, 54, 55, 56, 57, 58, 59, 60, 61, 62, 63, 64, 65, 66, 67, 68, 69, 70, 71, 72, 73, 74, 75, 76, 77, 78, 79, 80, 81, 82, 83, 84, 85, 86] rfl
  have hD : va_D A (Wd y ad (va_up (va_up (va_up (va_up (va_up (va_up (va_up (va_up cap 0 (gN (cap 0))) 39 q39) 40 q40) 41 q41) 42 q42) 43 q43) 44 q44) 45 q45) (va_up (va_up (va_up (va_up (va_up (va_up I 39 (va_cpy (I 39) (fun _ => 0) 0 0 (cap 0))) 40 (va_cpy (I 40) (fun _ => 0) 0 0 (cap 0))) 41 (va_cpy (I 41) (fun _ => 0) 0 0 (cap 0))) 42 (va_cpy (I 42) (fun _ => 0) 0 0 (cap 0))) 43 (va_cpy (I 43) (fun _ => 0) 0 0 (cap 0))) 44 (va_cpy (I 44) (fun _ => 0) 0 0 (cap 0))) (va_up J 45 (va_cpy (J 45) (fun _ => 0) 0 0 (cap 0)))) := hD.sub [0, 1, 2, 3, 4, 5, 6, 7, 8, 9, 10, 11, 12, 13, 14, 15, 16, 17, 18, 19, 20, 21, 22, 23, 24, 25, 26, 27, 28, 29, 30, 31, 32, 33, 34, 35, 36, 37, 38, 87, 88, 89, 90, 91, 92, 93, 46, 47, 48, 49, 50, 51, 52, 53, 54, 55, 56, 57, 58, 59, 60, 61, 62, 63, 64, 65, 66, 67, 68, 69, 70, 71, 72, 73, 74, 75, 76, 77, 78, 79, 80, 81, 82, 83, 84, 85, 86] (by decide) rfl
  refine W.vret hx hb hr (fun t ht hW => ⟨⟨(ad, va_up (va_up (va_up (va_up (va_up (va_up (va_up (va_up cap 0 (gN (cap 0))) 39 q39) 40 q40) 41 q41) 42 q42) 43 q43) 44 q44) 45 q45, va_up (va_up (va_up (va_up (va_up (va_up I 39 (va_cpy (I 39) (fun _ => 0) 0 0 (cap 0))) 40 (va_cpy (I 40) (fun _ => 0) 0 0 (cap 0))) 41 (va_cpy (I 41) (fun _ => 0) 0 0 (cap 0))) 42 (va_cpy (I 42) (fun _ => 0) 0 0 (cap 0))) 43 (va_cpy (I 43) (fun _ => 0) 0 0 (cap 0))) 44 (va_cpy (I 44) (fun _ => 0) 0 0 (cap 0)), va_up J 45 (va_cpy (J 45) (fun _ => 0) 0 0 (cap 0))), rfl, ?_, by rw [ht]; exact hP, by show va_D (va_A (Wd y ad cap I J) s.heap.size) _; rw [hAe]; exact hD⟩, hS.F ht⟩) hS.2.2 dX6_grow_98
  refine ⟨_, _, _, rfl, rfl, ?_, ?_, ?_⟩
  · refine EqX.up (EqX.up (EqX.up (EqX.up (EqX.up (EqX.up (EqX.rf) ?_) ?_) ?_) ?_) ?_) ?_ <;> decide
  · exact EqJ.up EqJ.rf (by decide)
  · intro t ht
    simp [va_up, va_cpy, ht]
