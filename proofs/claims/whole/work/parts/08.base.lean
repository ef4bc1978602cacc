/-! THE TABLES' WORDS in every state that a call comes to -/
def EnvOk (U : State) : Prop := ∀ w ∈ lw_E, ∀ a : Array Value, w.before a U = true
theorem EnvOk.of {s U : State} {a0 : Array Value} (h : ∀ w ∈ lw_E, w.before a0 s = true) (hW : s.WarmedH U.vm) : EnvOk U := by
  intro w hw a
  have h1 : (goodWord w || kk_nest w) = true := (List.mem_filter.mp hw).2
  rcases (Bool.or_eq_true _ _).mp h1 with h2 | h2
  · exact word_at hW (good_of_word h2) (h w hw)
  · cases w <;> simp [kk_nest] at h2
    all_goals first | exact va_Nw.use rfl (va_Nw.warmF hW (va_Nw.of rfl (h _ hw))) | exact va_Nw.use rfl (va_Nw.warmM hW (va_Nw.of rfl (h _ hw))) | exact va_Nw.use rfl (va_Nw.warmC hW (va_Nw.of rfl (h _ hw)))
theorem EnvOk.warm {s U : State} (h : EnvOk s) (hW : s.WarmedH U.vm) : EnvOk U := EnvOk.of (a0 := #[]) (fun w hw => h w hw #[]) hW
abbrev tysY (y : Nat → ClassId) : List (ClassId × FieldType) := [(y 0, .int), (y 1, .long), (y 2, .boolean)]
def Ok (D : va_G) (y : Nat → ClassId) (U : State) : Prop := va_K D vwCl (tysY y) U ∧ EnvOk U
theorem Ok.warm {D : va_G} {y : Nat → ClassId} {s U : State} (h : Ok D y s) (hW : s.WarmedH U.vm) : Ok D y U := ⟨va_K.moved hW.alike h.1, h.2.warm hW⟩
theorem Ok.calling {D : va_G} {y : Nat → ClassId} {U : State} (h : Ok D y U) (g : JFrame) (mk : MethodId) (a : Array Value) : Ok D y (U.calling g mk a) := h.warm (U := U.calling g mk a) (State.WarmedH.refl U)
/-- a reader's start, a writer's start -/
def PR (D : va_G) (y : Nat → ClassId) (ws : va_W) (U : State) : Prop := va_P D vwCl ws U.heap ∧ Ok D y U
def PW (D : va_G) (y : Nat → ClassId) (ws : va_W) (sz : Nat) (U : State) : Prop := U.heap.size = sz ∧ va_P D vwCl ws U.heap ∧ va_D (fun _ => True) ws ∧ Ok D y U
theorem PR.blind {D : va_G} {y : Nat → ClassId} {ws : va_W} {av : List Value} : FrameBlind (va_Pc av (PR D y ws)) := fun a U g mk q => by
  obtain ⟨q0, qP, qO⟩ := q
  exact ⟨q0, qP, qO.calling g mk a⟩
theorem PW.blind {D : va_G} {y : Nat → ClassId} {ws : va_W} {sz : Nat} {av : List Value} : FrameBlind (va_Pc av (PW D y ws sz)) := fun a U g mk q => by
  obtain ⟨q0, q1, qP, qD, qO⟩ := q
  exact ⟨q0, q1, qP, qD, qO.calling g mk a⟩
/-- what a call needs of the tables -/
def goodM (y : MethodName) (bytes : ByteArray) (maxL : Nat) (ret : Option FieldType) (C : String) (n : Nat) : Prop :=
  Cond.code y bytes maxL ret ∈ lw_E ∧ Cond.initialized y.cls ∈ lw_E ∧ Cond.instanceMethod y ∈ lw_E ∧ Cond.selects C y y ∈ lw_E ∧ (y.cls ≠ "java/lang/invoke/MethodHandle" ∧ y.cls ≠ "java/lang/invoke/VarHandle") ∧ (parseMethodDescriptor y.desc).map (fun d => d.parameters.length) = some n
def goodS (y : MethodName) (bytes : ByteArray) (maxL : Nat) (ret : Option FieldType) (n : Nat) : Prop :=
  Cond.code y bytes maxL ret ∈ lw_E ∧ Cond.initialized y.cls ∈ lw_E ∧ Cond.static y ∈ lw_E ∧ (y.cls ≠ "java/lang/invoke/MethodHandle" ∧ y.cls ≠ "java/lang/invoke/VarHandle") ∧ (parseMethodDescriptor y.desc).map (fun d => d.parameters.length) = some n
/-- a constructor -/
def goodI (y : MethodName) (bytes : ByteArray) (maxL : Nat) (n : Nat) : Prop :=
  Cond.code y bytes maxL none ∈ lw_E ∧ Cond.initialized y.cls ∈ lw_E ∧ Cond.instanceMethod y ∈ lw_E ∧ y.name = "<init>" ∧ (y.cls ≠ "java/lang/invoke/MethodHandle" ∧ y.cls ≠ "java/lang/invoke/VarHandle") ∧ (parseMethodDescriptor y.desc).map (fun d => d.parameters.length) = some n
theorem sig_n {y : MethodName} {n : Nat} (h : (parseMethodDescriptor y.desc).map (fun d => d.parameters.length) = some n) : ∀ sig, parseMethodDescriptor y.desc = some sig → n = sig.parameters.length := fun sig h2 => by
  rw [h2] at h
  exact (Option.some.inj h).symm
theorem cw_b {s : State} {y : MethodName} {bytes : ByteArray} {maxL : Nat} {ret : Option FieldType} (hE : EnvOk s) (hcd : Cond.code y bytes maxL ret ∈ lw_E) : ∀ w ∈ [Cond.code y bytes maxL ret], ∀ (a' : Array Value) (U : State), s.WarmedH U.vm → w.before a' U = true := fun w hw a' U hW => by
  rw [List.mem_singleton.mp hw]
  exact hE.warm hW _ hcd a'
section RUNS
variable {p : Program} {l : Launch} {e : Env} {R : Room} {s : State} {m : MethodId} {args : Array Value} {below : List Frame} {meth : Method} {c : Code} {H : Heap} {locs : List Loc} {cells slots : Nat} {Q : State → Prop}
variable {cc bytes : ByteArray} {nL maxL index n mc ms pc : Nat} {own C host : String} {y : MethodName} {ret : Option FieldType} {rm : Room} {Pc : Array Value → State → Prop} {Qc : Array Value → State → Outcome → State → Prop} {free : Addr → Prop} {b : Addr} {As rest st0 : List Value} {ls : Array Slot}
/-- invokevirtual by a plain link -/
theorem run_v (hx : p.tables.exec = Jvm.exec) (hb : c.code = cc) (hml : c.maxLocals = nL) (hown : s.vm.findClass own = some m.cls) (hE : EnvOk s) (hM : Met l y [Cond.code y bytes maxL ret] rm Pc Qc mc ms free) (hg : goodM y bytes maxL ret C n) (hl : Cond.methodLink own index y ∈ lw_E) (hrm : rm.cells = mc ∧ rm.slots = ms) (hR : rm.frames + 1 ≤ R.frames ∧ 8 + (maxL + 11) + rm.locals ≤ R.locals) (hp : PreV s H C b Pc As) (hn : As.length = n) (hsize : ls.size = nL) (hst : st0 = As.reverse ++ .ref b :: rest) (hW : (rest.map fun v => v.category).sum ≤ 8) (hdg : decode cc pc = .ok (.invokevirtual index, 3)) (hf : cells + mc ≤ R.cells ∧ slots + ms ≤ R.slots) :
    va_Run p l e R s m args below meth c H locs cells slots mc ms (F0 m pc ls st0) rest (Qc (Value.ref b :: As).toArray) free :=
  va_runV (Ts := lw_E) ⟨hx, hb, hml, hown, fun w h => hE w h _⟩ hM ⟨⟨hrm.1, hrm.2, hR.1, hR.2, cw_b hE hg.1, List.mem_singleton.mpr rfl, hE _ hg.1 _, hE _ hg.2.1 _, hg.2.2.2.2.1, sig_n hg.2.2.2.2.2, hE _ hl _⟩, hE _ hg.2.2.1 _, hE _ hg.2.2.2.1 _⟩ hp rfl hn hsize hst (lv_room hW) hdg hf
/-- invokevirtual of a nest mate's private method -/
theorem run_vn (hx : p.tables.exec = Jvm.exec) (hb : c.code = cc) (hml : c.maxLocals = nL) (hown : s.vm.findClass own = some m.cls) (hE : EnvOk s) (hM : Met l y [Cond.code y bytes maxL ret] rm Pc Qc mc ms free) (hg : goodM y bytes maxL ret C n) (hl : Cond.methodLinkNest own index y host ∈ lw_E) (hrm : rm.cells = mc ∧ rm.slots = ms) (hR : rm.frames + 1 ≤ R.frames ∧ 8 + (maxL + 11) + rm.locals ≤ R.locals) (hp : PreV s H C b Pc As) (hn : As.length = n) (hsize : ls.size = nL) (hst : st0 = As.reverse ++ .ref b :: rest) (hW : (rest.map fun v => v.category).sum ≤ 8) (hdg : decode cc pc = .ok (.invokevirtual index, 3)) (hf : cells + mc ≤ R.cells ∧ slots + ms ≤ R.slots) :
    va_Run p l e R s m args below meth c H locs cells slots mc ms (F0 m pc ls st0) rest (Qc (Value.ref b :: As).toArray) free :=
  va_runVN (Ts := lw_E) ⟨hx, hb, hml, hown, fun w h => hE w h _⟩ hM ⟨⟨⟨hrm.1, hrm.2, hR.1, hR.2, cw_b hE hg.1, List.mem_singleton.mpr rfl⟩, hE _ hg.1 _, hE _ hg.2.1 _, hg.2.2.2.2.1, sig_n hg.2.2.2.2.2, hE _ hl _⟩, hE _ hg.2.2.1 _, hE _ hg.2.2.2.1 _⟩ hp rfl hn hsize hst (lv_room hW) hdg hf
theorem run_s (hx : p.tables.exec = Jvm.exec) (hb : c.code = cc) (hml : c.maxLocals = nL) (hown : s.vm.findClass own = some m.cls) (hE : EnvOk s) (hM : Met l y [Cond.code y bytes maxL ret] rm Pc Qc mc ms free) (hg : goodS y bytes maxL ret n) (hl : Cond.methodLink own index y ∈ lw_E) (hrm : rm.cells = mc ∧ rm.slots = ms) (hR : rm.frames + 1 ≤ R.frames ∧ 8 + (maxL + 11) + rm.locals ≤ R.locals) (hp : PreS s H Pc As) (hn : As.length = n) (hsize : ls.size = nL) (hst : st0 = As.reverse ++ rest) (hW : (rest.map fun v => v.category).sum ≤ 8) (hdg : decode cc pc = .ok (.invokestatic index, 3)) (hf : cells + mc ≤ R.cells ∧ slots + ms ≤ R.slots) :
    va_Run p l e R s m args below meth c H locs cells slots mc ms (F0 m pc ls st0) rest (Qc As.toArray) free :=
  va_runS (Ts := lw_E) ⟨hx, hb, hml, hown, fun w h => hE w h _⟩ hM ⟨⟨hrm.1, hrm.2, hR.1, hR.2, cw_b hE hg.1, List.mem_singleton.mpr rfl, hE _ hg.1 _, hE _ hg.2.1 _, hg.2.2.2.1, sig_n hg.2.2.2.2, hE _ hl _⟩, hE _ hg.2.2.1 _⟩ hp rfl hn hsize hst (lv_room hW) hdg hf
theorem run_sn (hx : p.tables.exec = Jvm.exec) (hb : c.code = cc) (hml : c.maxLocals = nL) (hown : s.vm.findClass own = some m.cls) (hE : EnvOk s) (hM : Met l y [Cond.code y bytes maxL ret] rm Pc Qc mc ms free) (hg : goodS y bytes maxL ret n) (hl : Cond.methodLinkNest own index y host ∈ lw_E) (hrm : rm.cells = mc ∧ rm.slots = ms) (hR : rm.frames + 1 ≤ R.frames ∧ 8 + (maxL + 11) + rm.locals ≤ R.locals) (hp : PreS s H Pc As) (hn : As.length = n) (hsize : ls.size = nL) (hst : st0 = As.reverse ++ rest) (hW : (rest.map fun v => v.category).sum ≤ 8) (hdg : decode cc pc = .ok (.invokestatic index, 3)) (hf : cells + mc ≤ R.cells ∧ slots + ms ≤ R.slots) :
    va_Run p l e R s m args below meth c H locs cells slots mc ms (F0 m pc ls st0) rest (Qc As.toArray) free :=
  va_runSN (Ts := lw_E) ⟨hx, hb, hml, hown, fun w h => hE w h _⟩ hM ⟨⟨⟨hrm.1, hrm.2, hR.1, hR.2, cw_b hE hg.1, List.mem_singleton.mpr rfl⟩, hE _ hg.1 _, hE _ hg.2.1 _, hg.2.2.2.1, sig_n hg.2.2.2.2, hE _ hl _⟩, hE _ hg.2.2.1 _, trivial⟩ hp rfl hn hsize hst (lv_room hW) hdg hf
theorem run_i (hx : p.tables.exec = Jvm.exec) (hb : c.code = cc) (hml : c.maxLocals = nL) (hown : s.vm.findClass own = some m.cls) (hE : EnvOk s) (hM : Met l y [Cond.code y bytes maxL none] rm Pc Qc mc ms free) (hg : goodI y bytes maxL n) (hl : Cond.methodLink own index y ∈ lw_E) (hrm : rm.cells = mc ∧ rm.slots = ms) (hR : rm.frames + 1 ≤ R.frames ∧ 8 + (maxL + 11) + rm.locals ≤ R.locals) (hp : PreS s H Pc (.ref b :: As)) (hn : As.length = n) (hsize : ls.size = nL) (hst : st0 = As.reverse ++ .ref b :: rest) (hW : (rest.map fun v => v.category).sum ≤ 8) (hdg : decode cc pc = .ok (.invokespecial index, 3)) (hf : cells + mc ≤ R.cells ∧ slots + ms ≤ R.slots) :
    va_Run p l e R s m args below meth c H locs cells slots mc ms (F0 m pc ls st0) rest (Qc (Value.ref b :: As).toArray) free :=
  va_runI (Ts := lw_E) ⟨hx, hb, hml, hown, fun w h => hE w h _⟩ hM ⟨⟨hrm.1, hrm.2, hR.1, hR.2, cw_b hE hg.1, List.mem_singleton.mpr rfl, hE _ hg.1 _, hE _ hg.2.1 _, hg.2.2.2.2.1, sig_n hg.2.2.2.2.2, hE _ hl _⟩, hg.2.2.2.1, hE _ hg.2.2.1 _⟩ hp rfl hn hsize hst (lv_room hW) hdg hf
theorem run_in (hx : p.tables.exec = Jvm.exec) (hb : c.code = cc) (hml : c.maxLocals = nL) (hown : s.vm.findClass own = some m.cls) (hE : EnvOk s) (hM : Met l y [Cond.code y bytes maxL none] rm Pc Qc mc ms free) (hg : goodI y bytes maxL n) (hl : Cond.methodLinkNest own index y host ∈ lw_E) (hrm : rm.cells = mc ∧ rm.slots = ms) (hR : rm.frames + 1 ≤ R.frames ∧ 8 + (maxL + 11) + rm.locals ≤ R.locals) (hp : PreS s H Pc (.ref b :: As)) (hn : As.length = n) (hsize : ls.size = nL) (hst : st0 = As.reverse ++ .ref b :: rest) (hW : (rest.map fun v => v.category).sum ≤ 8) (hdg : decode cc pc = .ok (.invokespecial index, 3)) (hf : cells + mc ≤ R.cells ∧ slots + ms ≤ R.slots) :
    va_Run p l e R s m args below meth c H locs cells slots mc ms (F0 m pc ls st0) rest (Qc (Value.ref b :: As).toArray) free :=
  va_runIN (Ts := lw_E) ⟨hx, hb, hml, hown, fun w h => hE w h _⟩ hM ⟨⟨⟨hrm.1, hrm.2, hR.1, hR.2, cw_b hE hg.1, List.mem_singleton.mpr rfl⟩, hE _ hg.1 _, hE _ hg.2.1 _, hg.2.2.2.2.1, sig_n hg.2.2.2.2.2, hE _ hl _⟩, hg.2.2.2.1, hE _ hg.2.2.1 _⟩ hp rfl hn hsize hst (lv_room hW) hdg hf
/-- behind a reader: nothing has changed -/
theorem rk_i {post : Int32 → Prop} {a : Array Value} (hr : va_Run p l e R s m args below meth c H locs cells slots 0 0 (F0 m pc ls st0) rest (vp_Si post a) (fun _ => False)) (kk : ∀ r : Int32, post r → W p l e R s m args below meth c H locs cells slots Q (F0 m (pc + 3) ls (.int r :: rest))) : W p l e R s m args below meth c H locs cells slots Q (F0 m pc ls st0) := by
  intro T hT X
  obtain ⟨v, st₀, t, T', L, h0, X', hL, e1, e2, ⟨r, hv, hp, hh⟩, st⟩ := hr T hT X
  cases hv
  have hL0 : L = [] := List.eq_nil_iff_forall_not_mem.mpr hL
  subst hL0
  rw [List.append_nil] at X'
  obtain ⟨t2, a1, b1⟩ := kk r hp T' (by rw [e1, hh, h0]) X'
  exact ⟨t2, st t2 a1, b1⟩
theorem rk_l {post : Int64 → Prop} {a : Array Value} (hr : va_Run p l e R s m args below meth c H locs cells slots 0 0 (F0 m pc ls st0) rest (vp_Sl post a) (fun _ => False)) (kk : ∀ r : Int64, post r → W p l e R s m args below meth c H locs cells slots Q (F0 m (pc + 3) ls (.long r :: rest))) : W p l e R s m args below meth c H locs cells slots Q (F0 m pc ls st0) := by
  intro T hT X
  obtain ⟨v, st₀, t, T', L, h0, X', hL, e1, e2, ⟨r, hv, hp, hh⟩, st⟩ := hr T hT X
  cases hv
  have hL0 : L = [] := List.eq_nil_iff_forall_not_mem.mpr hL
  subst hL0
  rw [List.append_nil] at X'
  obtain ⟨t2, a1, b1⟩ := kk r hp T' (by rw [e1, hh, h0]) X'
  exact ⟨t2, st t2 a1, b1⟩
variable {D : va_G} {yy : Nat → ClassId} {ws : va_W} {A : Nat → Prop} {H0 : Heap}
theorem pre_VR {q0 ci : Nat} {fs : List Value} {T : u_T} {N : Nat} (hO : Ok D yy s) (hP : va_P D vwCl ws H) (he : ws[q0]? = some (b, .inr (ci, fs))) (hc : vwCl[ci]? = some (C, T, N)) : PreV s H C b (va_Pc (.ref b :: As) (PR D yy ws)) As := ⟨PR.blind, va_recv hO.1 hP hc he, fun U hU hW => ⟨rfl, by rw [hU]; exact hP, hO.warm hW⟩⟩
theorem pre_SR (hO : Ok D yy s) (hP : va_P D vwCl ws H) : PreS s H (va_Pc As (PR D yy ws)) As := ⟨PR.blind, fun U hU hW => ⟨rfl, by rw [hU]; exact hP, hO.warm hW⟩⟩
theorem pre_VW {q0 ci : Nat} {fs : List Value} {T : u_T} {N : Nat} (hO : Ok D yy s) (hP : va_P D vwCl ws H) (hD : va_D A ws) (he : ws[q0]? = some (b, .inr (ci, fs))) (hc : vwCl[ci]? = some (C, T, N)) : PreV s H C b (va_Pc (.ref b :: As) (PW D yy ws H.size)) As := ⟨PW.blind, va_recv hO.1 hP hc he, fun U hU hW => ⟨rfl, by rw [hU], by rw [hU]; exact hP, hD.weaken (fun _ _ _ _ => trivial), hO.warm hW⟩⟩
theorem pre_SW (hO : Ok D yy s) (hP : va_P D vwCl ws H) (hD : va_D A ws) : PreS s H (va_Pc As (PW D yy ws H.size)) As := ⟨PW.blind, fun U hU hW => ⟨rfl, by rw [hU], by rw [hU]; exact hP, hD.weaken (fun _ _ _ _ => trivial), hO.warm hW⟩⟩
theorem free_all (hD : va_D A ws) (hS : va_S A H0 H locs) (hA : ∀ q, H0.size ≤ q → A q) : ∀ q, va_A ws H.size q → A q := fun q h => by
  rcases h with ⟨k, e, h⟩ | h
  · exact hD.2 k (q, e) h
  · exact hA q (Nat.le_trans hS.1 h)
/-- what a writer leaves: the world Wf u -/
abbrev Aft (D : va_G) {S : Type} (Wf : S → va_W) (ws : va_W) (sz : Nat) (u : S) (t : State) : Prop := va_P D vwCl (Wf u) t.heap ∧ va_D (va_A ws sz) (Wf u)
theorem wk_v {S : Type} {post : S → Prop} {Wf : S → va_W} {a : Array Value} (hr : va_Run p l e R s m args below meth c H locs cells slots mc ms (F0 m pc ls st0) rest (va_Qv post (Aft D Wf ws H.size) (va_A ws H.size) a) (va_A ws H.size)) (hD : va_D A ws) (hS : va_S A H0 H locs) (hA : ∀ q, H0.size ≤ q → A q)
    (kk : ∀ (u : S) (H1 : Heap) (locs1 : List Loc), post u → va_P D vwCl (Wf u) H1 → va_D A (Wf u) → va_S A H0 H1 locs1 → W p l e R s m args below meth c H1 locs1 (cells + mc) (slots + ms) Q (F0 m (pc + 3) ls rest)) : W p l e R s m args below meth c H locs cells slots Q (F0 m pc ls st0) :=
  va_callv hr hS (fun q _ h => free_all hD hS hA q h) (free_all hD hS hA) (fun u t H1 locs1 ht _ hp hB _ _ hS1 => kk u H1 locs1 hp (by rw [← ht]; exact hB.1) (hB.2.weaken (fun _ q _ h => free_all hD hS hA q.1 h)) hS1)
theorem wk_i {S : Type} {post : Int32 → S → Prop} {Wf : S → va_W} {a : Array Value} (hr : va_Run p l e R s m args below meth c H locs cells slots mc ms (F0 m pc ls st0) rest (va_Qi post (Aft D Wf ws H.size) (va_A ws H.size) a) (va_A ws H.size)) (hD : va_D A ws) (hS : va_S A H0 H locs) (hA : ∀ q, H0.size ≤ q → A q)
    (kk : ∀ (r : Int32) (u : S) (H1 : Heap) (locs1 : List Loc), post r u → va_P D vwCl (Wf u) H1 → va_D A (Wf u) → va_S A H0 H1 locs1 → W p l e R s m args below meth c H1 locs1 (cells + mc) (slots + ms) Q (F0 m (pc + 3) ls (.int r :: rest))) : W p l e R s m args below meth c H locs cells slots Q (F0 m pc ls st0) :=
  va_calli hr hS (fun q _ h => free_all hD hS hA q h) (free_all hD hS hA) (fun r u t H1 locs1 ht _ hp hB _ _ hS1 => kk r u H1 locs1 hp (by rw [← ht]; exact hB.1) (hB.2.weaken (fun _ q _ h => free_all hD hS hA q.1 h)) hS1)
end RUNS
