/-! the law's own: methods that catch, contracts whose end holds or drops new cells; their calls -/
section FJ
variable {p : Program} {l : Launch} {e : Env} {R : Room} {s : State} {m : MethodId} {args : Array Value} {below : List Frame} {meth : Method} {c : Code} {H : Heap} {locs : List Loc} {cells slots : Nat} {Q : State → Prop}
variable {own : String} {cc : ByteArray} {n : Nat} {ret : Option FieldType} {g : GG} {A : Nat → Prop} {ws : va_W} {pc : Nat} {ls : Array Slot} {rest : List Value} {a : Nat}
theorem fz_rw {v v' : Int32} {rc rs : Nat} (X : fz_X p s m meth c own cc n (some .int) g A) (hW : fz_W g A s ws H locs) (hv : v' = v) (hc : cells ≤ rc ∧ slots ≤ rs) (hdg : decode cc pc = .ok (.ireturn, 1)) : W p l e R s m args below meth c H locs cells slots (MQ below (fz_Q g ws (some (.int v)) A) args s rc rs A) (F0 m pc ls [.int v']) := by
  subst hv
  exact W.widen hc.1 hc.2 (W.iret X.1 X.2.1 X.2.2.1 (fun t ht _ => ⟨⟨rfl, by rw [ht]; exact hW.1, hW.2.1⟩, hW.2.2.F ht⟩) hW.2.2.2.2 hdg X.2.2.2.2.2.1)
/-- a call of a method that may throw, by one that catches -/
theorem fz_cVX (X : fz_X p s m meth c own cc n ret g A) (Y : fz_Y s A) (hW : fz_W g A s ws H locs) {y : MethodName} {b : ByteArray} {n' np rf rc' rs' rl idx o ci q0 : Nat} {As : List Value} {ws1 : va_W} {v : Int32} {ex' : Option String} {fs : List Value} {C : vw_C} {lv : List (Nat × Value)} {st0 : List Value}
    (hM : fz_CX l g y b n' (some .int) rf rc' rs' rl (.ref o :: As) ws ws1 (some (.int v)) ex') (hL : fz_LV own idx y b n' (some .int) np) (hc : classes[ci]? = some C) (hC : C.1 = y.cls) (he : ws[q0]? = some (o, .inr (ci, fs))) (hn : As.length = np) (hR : rf + 1 ≤ R.frames ∧ 8 + (n' + 11) + rl ≤ R.locals) (hl : lv_has ls n lv) (hst : st0 = As.reverse ++ .ref o :: rest) (hrm : (rest.map fun v => v.category).sum ≤ 8) (hdg : decode cc pc = .ok (.invokevirtual idx, 3)) (hcs : cells + rc' ≤ R.cells ∧ slots + rs' ≤ R.slots)
    (kx : ∀ (E : String) (q : Addr) (ce : Cell) (H1 : Heap) (locs1 : List Loc), ex' = some E → fz_W g A s ws H1 locs1 → H1[q]? = some ce → ce.vm = .none → s.vm.findClass E = some ce.cls → vx_W p l e R s m args below meth c H1 locs1 (cells + rc') (slots + rs') Q (F0 m pc ls rest) q)
    (kk : ∀ (H1 : Heap) (locs1 : List Loc), ex' = none → fz_W g A s ws1 H1 locs1 → W p l e R s m args below meth c H1 locs1 (cells + rc') (slots + rs') Q (F0 m (pc + 3) ls (.int v :: rest))) : W p l e R s m args below meth c H locs cells slots Q (F0 m pc ls st0) := by
  have hE := X.2.2.2.2.2.2.1
  exact fz_xback X hW (vx_runV (y := y) (C := y.cls) (n := np) (Ts := []) ⟨X.1, X.2.1, X.2.2.2.1, X.2.2.2.2.1, fun _ h => absurd h List.not_mem_nil⟩ (hM H.size) ⟨fz_callB X hL.1 hL.2.1 hR, hE.use hL.2.2.1 _, hE.use hL.2.2.2 _⟩ ⟨fz_PX.blind, hC ▸ va_recv hE.1 hW.1 hc he, fz_preX X Y hW _⟩ rfl hn hl.1 hst (lv_room hrm) hdg hcs) kx kk
/-- behind a call that makes cells -/
theorem fz_backM (X : fz_X p s m meth c own cc n ret g A) (hW : fz_W g A s ws H locs) {ws1 : va_W} {v : Option Value} {mc ms : Nat} {st0 : List Value} {av : Array Value} (hr : va_Run p l e R s m args below meth c H locs cells slots mc ms (F0 m pc ls st0) rest (fz_Q g ws1 v (va_A ws H.size) av) (va_A ws H.size))
    (kk : ∀ (H1 : Heap) (locs1 : List Loc), fz_W g A s ws1 H1 locs1 → W p l e R s m args below meth c H1 locs1 (cells + mc) (slots + ms) Q (F0 m (pc + 3) ls (v.toList ++ rest))) : W p l e R s m args below meth c H locs cells slots Q (F0 m pc ls st0) := by
  obtain ⟨-, -, -, -, -, -, hE, hA⟩ := X
  have hF := fz_freeA hA hW
  intro T hT Y
  obtain ⟨v', st₀, t, T', L, h0, X', hL, e1, e2, ⟨⟨hv, hP, hD⟩, hz, hk⟩, st⟩ := hr T hT Y
  cases hv
  rw [h0] at hz hk
  obtain ⟨t2, a1, b1⟩ := kk T'.heap (locs ++ L) ⟨by rw [e1]; exact hP, hD.weaken (fun k q _ h => hF q.1 h), Nat.le_trans hW.2.2.1 (by rw [e1]; exact hz), fun q h1 h2 => by rw [e1, hk q (Nat.lt_of_lt_of_le h1 hW.2.2.1) (fun z => h2 (hF q z))]; exact hW.2.2.2.1 q h1 h2, fun q hq => by
      rcases List.mem_append.mp hq with h | h
      · exact hW.2.2.2.2 q h
      · exact hF _ (hL q h)⟩ T' rfl X'
  exact ⟨t2, st t2 a1, b1⟩
end FJ
def fz_PL (g : GG) (as : List Value) (W0 : va_W) (sz : Nat) : Array Value → State → Prop := va_Pc as (fun U => U.heap.size = sz ∧ va_P g.1 classes W0 U.heap ∧ fz_E g U ∧ va_D (fun _ => True) W0 ∧ fz_Z (va_A W0 sz) U U.heap ∧ fz_T U ∧ va_Nc XIA XIO U)
theorem fz_PL.blind {g : GG} {as : List Value} {W0 : va_W} {sz : Nat} : FrameBlind (fz_PL g as W0 sz) := fun a U f mk q => by
  obtain ⟨q0, q1, qP, qE, qD, qZ, qT, qN⟩ := q
  exact ⟨q0, q1, qP, fz_E.call qE, qD, fz_Z.call qZ, fz_T.call qT, va_Nc.moved (u := U) (U := U.calling f mk a) (Vm.Alike.refl U.vm) qN⟩
/-- a contract of a method that catches: it answers v, the world becomes W1 -/
def fz_CH (l : Launch) (g : GG) (y : MethodName) (b : ByteArray) (n : Nat) (hh : List (Nat × Nat × Nat × Nat)) (rf rc rs rl : Nat) (as : List Value) (W0 W1 : va_W) (v : Int32) : Prop :=
  ∀ sz : Nat, Met l y [.codeWith y b n (some .int) hh] (fz_R rf rc rs rl) (fz_PL g as W0 sz) (fz_Q g W1 (some (.int v)) (va_A W0 sz)) rc rs (va_A W0 sz)
theorem fz_CH.of {l : Launch} {g : GG} {y : MethodName} {b : ByteArray} {n : Nat} {hh : List (Nat × Nat × Nat × Nat)} {rf rc rs rl : Nat} {as : List Value} {W0 W1 : va_W} {v : Int32} (hy : plainName y.cls = true) (hn : (lg_sl as).length ≤ n)
    (body : ∀ (p : Program) (e : Env) (s : State) (m : MethodId) (args : Array Value) (below : List Frame) (meth : Method) (c : Code) (A : Nat → Prop) (ls : Array Slot), fz_X p s m meth c y.cls b n (some .int) g A → fz_Y s A → va_Nc XIA XIO s → c.exceptionTable.toList = tableOf hh → fz_W g A s W0 s.heap [] → lv_has ls n (lv_args 0 as) →
      W p l e (fz_R rf rc rs rl) s m args below meth c s.heap [] 0 0 (MQ below (fz_Q g W1 (some (.int v)) A) args s rc rs A) (F0 m 0 ls [])) : fz_CH l g y b n hh rf rc rs rl as W0 W1 v := by
  intro sz
  refine va_MetW (cc := b) (maxL := n) (ret := some .int) (hh := hh) hy rfl ?_
  intro p e s m args below meth c s₁ B hml hv
  have ht := vx_table (x := y) B (atoms_spec (ws := [.codeWith y b n (some .int) hh]) B.pre _ List.mem_cons_self)
  obtain ⟨rfl, hsz, hP, hE, hD0, hZ, hT, hN⟩ := hv
  subst hsz
  have hD : va_D (va_A W0 s.heap.size) W0 := hD0.self (sz := s.heap.size)
  have hl := lv_entry as (n := n) hn
  rw [lg_entry_eq]
  exact body p e s m as.toArray below meth c _ _ ⟨B.exec, B.bytes, B.returns, hml, findClass_of_methodNamed B.named, B.notSynchronized, hE, fun q h => Or.inr h⟩ ⟨hZ, hT⟩ hN ht ⟨hP, hD, va_S.rf⟩ hl
theorem fz_CH.frame {l : Launch} {g : GG} {y : MethodName} {b : ByteArray} {n : Nat} {hh : List (Nat × Nat × Nat × Nat)} {rf rc rs rl : Nat} {as : List Value} {wc w1 : va_W} {v : Int32} (h : fz_CH l g y b n hh rf rc rs rl as wc w1 v) {ws ws1 : va_W} (isC isR isX : List Nat)
    (hC : isC.map (fun i => ws[i]?) = wc.map some) (hc : va_nd isC = true) (hR : isR.map (fun i => ws[i]?) = (isR.filterMap (fun i => ws[i]?)).map some) (hn : va_nd isR = true) (hdis : ∀ i ∈ isR, i ∉ isC) (hX : isX.map (fun i => (isR.filterMap (fun i => ws[i]?) ++ w1)[i]?) = ws1.map some) (hx : va_nd isX = true) : fz_CH l g y b n hh rf rc rs rl as ws ws1 v := by
  intro sz
  refine fz_cons (h sz) ?_ ?_ (fz_A.sub isC hC)
  · intro a s hp
    obtain ⟨h1, h2, h3, h4, h5, h6, h7, h8⟩ := hp
    exact ⟨h1, h2, fz_P.pick h3 isC hC, h4, h5.sub isC hc hC, ⟨vx_Zq.narrow h6.1 (fz_A.sub isC hC), vx_Zq.narrow h6.2 (fz_A.sub isC hC)⟩, h7, h8⟩
  · intro a s o t hp hq
    obtain ⟨h1, h2, h3, h4, h5, h6, h7, h8⟩ := hp
    obtain ⟨⟨q1, q2, q3⟩, q4, q5⟩ := hq
    subst h2
    have hD5 : va_D (va_A ws s.heap.size) ws := h5.self
    obtain ⟨j1, j2⟩ := va_join (A0 := va_A ws s.heap.size) h3 hD5 isC isR hC hR hn hdis q5 (fz_A.sub isC hC) q2 q3
    exact ⟨⟨q1, fz_P.pick j1 isX hX, j2.sub isX hx hX⟩, q4, fun q hq hA => q5 q hq (fun z => hA (fz_A.sub isC hC q z))⟩
def fz_LH (own : String) (idx : Nat) (y : MethodName) (b : ByteArray) (n : Nat) (hh : List (Nat × Nat × Nat × Nat)) (np : Nat) : Prop := fz_M (.initialized y.cls) ∧ fz_M (.codeWith y b n (some .int) hh) ∧ (y.cls ≠ "java/lang/invoke/MethodHandle" ∧ y.cls ≠ "java/lang/invoke/VarHandle" ∧ (parseMethodDescriptor y.desc).map (fun d => d.parameters.length) = some np) ∧ fz_M (.methodLink own idx y) ∧ fz_M (.static y)
section FK
variable {p : Program} {l : Launch} {e : Env} {R : Room} {s : State} {m : MethodId} {args : Array Value} {below : List Frame} {meth : Method} {c : Code} {H : Heap} {locs : List Loc} {cells slots : Nat} {Q : State → Prop}
variable {own : String} {cc : ByteArray} {n : Nat} {ret : Option FieldType} {g : GG} {A : Nat → Prop} {ws : va_W} {pc : Nat} {ls : Array Slot} {rest : List Value} {a : Nat}
theorem fz_preL (X : fz_X p s m meth c own cc n ret g A) (Y : fz_Y s A) (hN : va_Nc XIA XIO s) (hW : fz_W g A s ws H locs) (as : List Value) : ∀ U : State, U.heap = H → s.WarmedH U.vm → fz_PL g as ws H.size as.toArray U := by
  intro U hU hw
  obtain ⟨q0, q1, q2, q3, q4, q5, q6⟩ := fz_preX X Y hW as U hU hw
  exact ⟨q0, q1, q2, q3, q4, q5, q6, va_Nc.moved hw.alike hN⟩
theorem fz_cH (X : fz_X p s m meth c own cc n ret g A) (Y : fz_Y s A) (hN : va_Nc XIA XIO s) (hW : fz_W g A s ws H locs) {y : MethodName} {b : ByteArray} {n' np rf rc rs rl idx : Nat} {hh : List (Nat × Nat × Nat × Nat)} {As : List Value} {ws1 : va_W} {v : Int32} {lv : List (Nat × Value)} {st0 : List Value}
    (hM : fz_CH l g y b n' hh rf rc rs rl As ws ws1 v) (hL : fz_LH own idx y b n' hh np) (hn : As.length = np) (hR : rf + 1 ≤ R.frames ∧ 8 + (n' + 11) + rl ≤ R.locals) (hl : lv_has ls n lv) (hst : st0 = As.reverse ++ rest) (hrm : (rest.map fun v => v.category).sum ≤ 8) (hdg : decode cc pc = .ok (.invokestatic idx, 3)) (hcs : cells + rc ≤ R.cells ∧ slots + rs ≤ R.slots)
    (kk : ∀ (H1 : Heap) (locs1 : List Loc), fz_W g A s ws1 H1 locs1 → W p l e R s m args below meth c H1 locs1 (cells + rc) (slots + rs) Q (F0 m (pc + 3) ls (.int v :: rest))) : W p l e R s m args below meth c H locs cells slots Q (F0 m pc ls st0) := by
  have hE := X.2.2.2.2.2.2.1
  obtain ⟨L1, L2, L3, L4, L5⟩ := hL
  refine fz_backM X hW (vx_runSW (y := y) (bytes := b) (maxL := n') (ret := some .int) (hh := hh) (n := np) (Ts := []) ⟨X.1, X.2.1, X.2.2.2.1, X.2.2.2.2.1, fun _ h => absurd h List.not_mem_nil⟩ (hM H.size) ⟨⟨rfl, rfl, hR.1, hR.2, fun w hw a' U hU => ?_, List.mem_cons_self⟩, hE.use L2 _, hE.use L1 _, ⟨L3.1, L3.2.1⟩, fun sig h => ?_, hE.use L4 _, hE.use L5 _⟩ ⟨fz_PL.blind, fz_preL X Y hN hW _⟩ rfl hn hl.1 hst (lv_room hrm) hdg hcs) kk
  · rw [List.mem_singleton.mp hw]
    exact fz_warm L2.2 hU (hE.use L2 #[])
  · have h2 := L3.2.2
    rw [h] at h2
    exact (Option.some.inj h2).symm
end FK
/-- a contract of a method that calls one that catches: it answers v, the world becomes W1 -/
def fz_CP (l : Launch) (g : GG) (y : MethodName) (b : ByteArray) (n : Nat) (ret : Option FieldType) (rf rc rs rl : Nat) (as : List Value) (W0 W1 : va_W) (v : Option Value) : Prop :=
  ∀ sz : Nat, Met l y [.code y b n ret] (fz_R rf rc rs rl) (fz_PL g as W0 sz) (fz_Q g W1 v (va_A W0 sz)) rc rs (va_A W0 sz)
theorem fz_CP.of {l : Launch} {g : GG} {y : MethodName} {b : ByteArray} {n : Nat} {ret : Option FieldType} {rf rc rs rl : Nat} {as : List Value} {W0 W1 : va_W} {v : Option Value} (hy : plainName y.cls = true) (hn : (lg_sl as).length ≤ n)
    (body : ∀ (p : Program) (e : Env) (s : State) (m : MethodId) (args : Array Value) (below : List Frame) (meth : Method) (c : Code) (A : Nat → Prop) (ls : Array Slot), fz_X p s m meth c y.cls b n ret g A → fz_Y s A → va_Nc XIA XIO s → fz_W g A s W0 s.heap [] → lv_has ls n (lv_args 0 as) →
      W p l e (fz_R rf rc rs rl) s m args below meth c s.heap [] 0 0 (MQ below (fz_Q g W1 v A) args s rc rs A) (F0 m 0 ls [])) : fz_CP l g y b n ret rf rc rs rl as W0 W1 v := by
  intro sz
  refine Met.ofW (cc := b) (maxL := n) (ret := ret) hy rfl ?_
  intro p e s m args below meth c s₁ B hml hv
  obtain ⟨rfl, hsz, hP, hE, hD0, hZ, hT, hN⟩ := hv
  subst hsz
  have hD : va_D (va_A W0 s.heap.size) W0 := hD0.self (sz := s.heap.size)
  have hl := lv_entry as (n := n) hn
  rw [lg_entry_eq]
  exact body p e s m as.toArray below meth c _ _ ⟨B.exec, B.bytes, B.returns, hml, findClass_of_methodNamed B.named, B.notSynchronized, hE, fun q h => Or.inr h⟩ ⟨hZ, hT⟩ hN ⟨hP, hD, va_S.rf⟩ hl
/-- a contract whose end holds new cells, which are dropped: K of the world behind it -/
def fz_QK (g : GG) (K : va_W → Prop) (v : Option Value) (A : Nat → Prop) : Array Value → State → Outcome → State → Prop := fun _ st oc t => (oc = .returned v ∧ ∃ W1 : va_W, K W1 ∧ va_P g.1 classes W1 t.heap ∧ va_D A W1) ∧ va_F A st t
def fz_CK (l : Launch) (g : GG) (y : MethodName) (b : ByteArray) (n : Nat) (ret : Option FieldType) (rf rc rs rl : Nat) (as : List Value) (W0 : va_W) (K : va_W → Prop) (v : Option Value) : Prop :=
  ∀ sz : Nat, Met l y [.code y b n ret] (fz_R rf rc rs rl) (fz_P g as W0 sz) (fz_QK g K v (va_A W0 sz)) rc rs (va_A W0 sz)
theorem fz_CK.of {l : Launch} {g : GG} {y : MethodName} {b : ByteArray} {n : Nat} {ret : Option FieldType} {rf rc rs rl : Nat} {as : List Value} {W0 : va_W} {K : va_W → Prop} {v : Option Value} (hy : plainName y.cls = true) (hn : (lg_sl as).length ≤ n)
    (body : ∀ (p : Program) (e : Env) (s : State) (m : MethodId) (args : Array Value) (below : List Frame) (meth : Method) (c : Code) (A : Nat → Prop) (ls : Array Slot), fz_X p s m meth c y.cls b n ret g A → fz_W g A s W0 s.heap [] → lv_has ls n (lv_args 0 as) →
      W p l e (fz_R rf rc rs rl) s m args below meth c s.heap [] 0 0 (MQ below (fz_QK g K v A) args s rc rs A) (F0 m 0 ls [])) : fz_CK l g y b n ret rf rc rs rl as W0 K v := by
  intro sz
  refine Met.ofW (cc := b) (maxL := n) (ret := ret) hy rfl ?_
  intro p e s m args below meth c s₁ B hml hv
  obtain ⟨rfl, hsz, hP, hE, hD0⟩ := hv
  subst hsz
  have hD : va_D (va_A W0 s.heap.size) W0 := hD0.self (sz := s.heap.size)
  have hl := lv_entry as (n := n) hn
  rw [lg_entry_eq]
  exact body p e s m as.toArray below meth c _ _ ⟨B.exec, B.bytes, B.returns, hml, findClass_of_methodNamed B.named, B.notSynchronized, hE, fun q h => Or.inr h⟩ ⟨hP, hD, va_S.rf⟩ hl
/-- the script is there, and not among what may be written -/
def fz_PS (g : GG) (as : List Value) (W0 : va_W) (b0 L : Nat) (xs : Nat → Int32) (sz : Nat) : Array Value → State → Prop := va_Pc as (fun U => U.heap.size = sz ∧ va_P g.1 classes W0 U.heap ∧ fz_E g U ∧ va_D (fun _ => True) W0 ∧ va_X b0 L xs U U.heap ∧ b0 < U.heap.size ∧ ¬ va_A W0 sz b0)
def fz_CS (l : Launch) (g : GG) (y : MethodName) (b : ByteArray) (n : Nat) (ret : Option FieldType) (rf rl : Nat) (as : List Value) (W0 : va_W) (b0 L : Nat) (xs : Nat → Int32) (v : Option Value) : Prop :=
  ∀ sz : Nat, Met l y [.code y b n ret] (fz_R rf 0 0 rl) (fz_PS g as W0 b0 L xs sz) (fz_Q g W0 v (va_A W0 sz)) 0 0 (va_A W0 sz)
theorem fz_PS.blind {g : GG} {as : List Value} {W0 : va_W} {b0 L : Nat} {xs : Nat → Int32} {sz : Nat} : FrameBlind (fz_PS g as W0 b0 L xs sz) := fun a U f mk q => by
  obtain ⟨q0, q1, qP, qE, qD, qX, qb, qn⟩ := q
  exact ⟨q0, q1, qP, fz_E.call qE, qD, va_X.moved (u := U) (U := U.calling f mk a) (Vm.Alike.refl U.vm) qX, qb, qn⟩
section FP
variable {p : Program} {l : Launch} {e : Env} {R : Room} {s : State} {m : MethodId} {args : Array Value} {below : List Frame} {meth : Method} {c : Code} {H : Heap} {locs : List Loc} {cells slots : Nat} {Q : State → Prop}
variable {own : String} {cc : ByteArray} {n : Nat} {ret : Option FieldType} {g : GG} {A : Nat → Prop} {ws : va_W} {pc : Nat} {ls : Array Slot} {rest : List Value} {a : Nat}
theorem fz_rzw {v v' : Int32} {rc rs : Nat} (X : fz_X p s m meth c own cc n (some .boolean) g A) (hW : fz_W g A s ws H locs) (hv : v' = v) (hn : narrow .boolean (.int v) = .int v) (hc : cells ≤ rc ∧ slots ≤ rs) (hdg : decode cc pc = .ok (.ireturn, 1)) : W p l e R s m args below meth c H locs cells slots (MQ below (fz_Q g ws (some (.int v)) A) args s rc rs A) (F0 m pc ls [.int v']) := by
  subst hv
  exact W.widen hc.1 hc.2 (W.zret X.1 X.2.1 X.2.2.1 hn (fun t ht _ => ⟨⟨rfl, by rw [ht]; exact hW.1, hW.2.1⟩, hW.2.2.F ht⟩) hW.2.2.2.2 hdg X.2.2.2.2.2.1)
theorem fz_rK {K : va_W → Prop} {v v' : Int32} {rc rs : Nat} (X : fz_X p s m meth c own cc n (some .int) g A) (hW : fz_W g A s ws H locs) (hK : K ws) (hv : v' = v) (hc : cells ≤ rc ∧ slots ≤ rs) (hdg : decode cc pc = .ok (.ireturn, 1)) : W p l e R s m args below meth c H locs cells slots (MQ below (fz_QK g K (some (.int v)) A) args s rc rs A) (F0 m pc ls [.int v']) := by
  subst hv
  exact W.widen hc.1 hc.2 (W.iret X.1 X.2.1 X.2.2.1 (fun t ht _ => ⟨⟨rfl, ws, hK, by rw [ht]; exact hW.1, hW.2.1⟩, hW.2.2.F ht⟩) hW.2.2.2.2 hdg X.2.2.2.2.2.1)
theorem fz_cP (X : fz_X p s m meth c own cc n ret g A) (Y : fz_Y s A) (hN : va_Nc XIA XIO s) (hW : fz_W g A s ws H locs) {y : MethodName} {b : ByteArray} {n' np rf rc rs rl idx : Nat} {ret' : Option FieldType} {As : List Value} {ws1 : va_W} {v : Int32} {lv : List (Nat × Value)} {st0 : List Value}
    (hM : fz_CP l g y b n' ret' rf rc rs rl As ws ws1 (some (.int v))) (hL : fz_LS own idx y b n' ret' np) (hn : As.length = np) (hR : rf + 1 ≤ R.frames ∧ 8 + (n' + 11) + rl ≤ R.locals) (hl : lv_has ls n lv) (hst : st0 = As.reverse ++ rest) (hrm : (rest.map fun v => v.category).sum ≤ 8) (hdg : decode cc pc = .ok (.invokestatic idx, 3)) (hcs : cells + rc ≤ R.cells ∧ slots + rs ≤ R.slots)
    (kk : ∀ (H1 : Heap) (locs1 : List Loc), fz_W g A s ws1 H1 locs1 → W p l e R s m args below meth c H1 locs1 (cells + rc) (slots + rs) Q (F0 m (pc + 3) ls (.int v :: rest))) : W p l e R s m args below meth c H locs cells slots Q (F0 m pc ls st0) := by
  have hE := X.2.2.2.2.2.2.1
  exact fz_backM X hW (va_runS (y := y) (n := np) (Ts := []) ⟨X.1, X.2.1, X.2.2.2.1, X.2.2.2.2.1, fun _ h => absurd h List.not_mem_nil⟩ (hM H.size) ⟨fz_callB X hL.1 hL.2.1 hR, hE.use hL.2.2 _⟩ ⟨fz_PL.blind, fz_preL X Y hN hW _⟩ rfl hn hl.1 hst (lv_room hrm) hdg hcs) kk
theorem fz_backK (X : fz_X p s m meth c own cc n ret g A) (hW : fz_W g A s ws H locs) {wc wr : va_W} {K : va_W → Prop} {v : Option Value} (isC isR : List Nat) (hC : isC.map (fun i => ws[i]?) = wc.map some) (hR : isR.map (fun i => ws[i]?) = wr.map some) (hnd : va_nd isR = true) (hdis : ∀ i ∈ isR, i ∉ isC) {mc ms : Nat} {st0 : List Value} {av : Array Value} (hr : va_Run p l e R s m args below meth c H locs cells slots mc ms (F0 m pc ls st0) rest (fz_QK g K v (va_A wc H.size) av) (va_A wc H.size))
    (kk : ∀ (W1 : va_W) (H1 : Heap) (locs1 : List Loc), K W1 → fz_W g A s (wr ++ W1) H1 locs1 → W p l e R s m args below meth c H1 locs1 (cells + mc) (slots + ms) Q (F0 m (pc + 3) ls (v.toList ++ rest))) : W p l e R s m args below meth c H locs cells slots Q (F0 m pc ls st0) := by
  obtain ⟨-, -, -, -, -, -, hE, hA⟩ := X
  have hF := va_free (wc := wc) hW.2.1 hW.2.2 hA isC hC
  intro T hT Y
  obtain ⟨v', st₀, t, T', L, h0, X', hL, e1, e2, ⟨⟨hv, W1, hK1, hP, hD⟩, hz, hk⟩, st⟩ := hr T hT Y
  cases hv
  rw [h0] at hz hk
  obtain ⟨j1, j2⟩ := va_join (wr := wr) (w1 := W1) hW.1 hW.2.1 isC isR hC hR hnd hdis hk hF hP hD
  obtain ⟨t2, a1, b1⟩ := kk W1 T'.heap (locs ++ L) hK1 ⟨by rw [e1]; exact j1, j2, Nat.le_trans hW.2.2.1 (by rw [e1]; exact hz), fun q h1 h2 => by rw [e1, hk q (Nat.lt_of_lt_of_le h1 hW.2.2.1) (fun z => h2 (hF q z))]; exact hW.2.2.2.1 q h1 h2, fun q hq => by
      rcases List.mem_append.mp hq with h | h
      · exact hW.2.2.2.2 q h
      · exact hF _ (hL q h)⟩ T' rfl X'
  exact ⟨t2, st t2 a1, b1⟩
theorem fz_preK (X : fz_X p s m meth c own cc n ret g A) (hW : fz_W g A s ws H locs) {wc : va_W} (isC : List Nat) (hC : isC.map (fun i => ws[i]?) = wc.map some) (hc : va_nd isC = true) (as : List Value) : ∀ U : State, U.heap = H → s.WarmedH U.vm → fz_P g as wc H.size as.toArray U := by
  obtain ⟨-, -, -, -, -, -, hE, -⟩ := X
  intro U hU hw
  exact ⟨rfl, by rw [hU], by rw [hU]; exact fz_P.pick hW.1 isC hC, fz_E.warm hw hE, (hW.2.1.sub isC hc hC).weaken (fun _ _ _ _ => trivial)⟩
theorem fz_cK (X : fz_X p s m meth c own cc n ret g A) (hW : fz_W g A s ws H locs) {y : MethodName} {b : ByteArray} {n' np rf rc rs rl idx : Nat} {ret' : Option FieldType} {As : List Value} {wc wr : va_W} {K : va_W → Prop} {v : Int32} {lv : List (Nat × Value)} {st0 : List Value} (isC isR : List Nat)
    (hM : fz_CK l g y b n' ret' rf rc rs rl As wc K (some (.int v))) (hL : fz_LS own idx y b n' ret' np) (hC : isC.map (fun i => ws[i]?) = wc.map some) (hc : va_nd isC = true) (hRr : isR.map (fun i => ws[i]?) = wr.map some) (hnd : va_nd isR = true) (hdis : ∀ i ∈ isR, i ∉ isC) (hn : As.length = np) (hR : rf + 1 ≤ R.frames ∧ 8 + (n' + 11) + rl ≤ R.locals) (hl : lv_has ls n lv) (hst : st0 = As.reverse ++ rest) (hrm : (rest.map fun v => v.category).sum ≤ 8) (hdg : decode cc pc = .ok (.invokestatic idx, 3)) (hcs : cells + rc ≤ R.cells ∧ slots + rs ≤ R.slots)
    (kk : ∀ (W1 : va_W) (H1 : Heap) (locs1 : List Loc), K W1 → fz_W g A s (wr ++ W1) H1 locs1 → W p l e R s m args below meth c H1 locs1 (cells + rc) (slots + rs) Q (F0 m (pc + 3) ls (.int v :: rest))) : W p l e R s m args below meth c H locs cells slots Q (F0 m pc ls st0) := by
  have hE := X.2.2.2.2.2.2.1
  exact fz_backK X hW isC isR hC hRr hnd hdis (va_runS (y := y) (n := np) (Ts := []) ⟨X.1, X.2.1, X.2.2.2.1, X.2.2.2.2.1, fun _ h => absurd h List.not_mem_nil⟩ (hM H.size) ⟨fz_callB X hL.1 hL.2.1 hR, hE.use hL.2.2 _⟩ ⟨fz_P.blind, fz_preK X hW isC hC hc _⟩ rfl hn hl.1 hst (lv_room hrm) hdg hcs) kk
theorem fz_cC (X : fz_X p s m meth c own cc n ret g A) (hW : fz_W g A s ws H locs) {b0 L : Nat} {xs : Nat → Int32} (hX : va_X b0 L xs s s.heap) (hbl : b0 < s.heap.size) (hbA : ¬ A b0) {y : MethodName} {b : ByteArray} {n' np rf rl idx : Nat} {ret' : Option FieldType} {As : List Value} {v : Int32} {lv : List (Nat × Value)} {st0 : List Value}
    (hM : fz_CS l g y b n' ret' rf rl As ws b0 L xs (some (.int v))) (hL : fz_LS own idx y b n' ret' np) (hn : As.length = np) (hR : rf + 1 ≤ R.frames ∧ 8 + (n' + 11) + rl ≤ R.locals) (hl : lv_has ls n lv) (hst : st0 = As.reverse ++ rest) (hrm : (rest.map fun v => v.category).sum ≤ 8) (hdg : decode cc pc = .ok (.invokestatic idx, 3)) (hcs : cells ≤ R.cells ∧ slots ≤ R.slots)
    (kk : ∀ (H1 : Heap) (locs1 : List Loc), fz_W g A s ws H1 locs1 → W p l e R s m args below meth c H1 locs1 cells slots Q (F0 m (pc + 3) ls (.int v :: rest))) : W p l e R s m args below meth c H locs cells slots Q (F0 m pc ls st0) := by
  have hE := X.2.2.2.2.2.2.1
  have hF := fz_freeA X.2.2.2.2.2.2.2 hW
  refine fz_back X hW (va_runS (y := y) (n := np) (Ts := []) ⟨X.1, X.2.1, X.2.2.2.1, X.2.2.2.2.1, fun _ h => absurd h List.not_mem_nil⟩ (hM H.size) ⟨fz_callB X hL.1 hL.2.1 hR, hE.use hL.2.2 _⟩ ⟨fz_PS.blind, fun U hU hw => ?_⟩ rfl hn hl.1 hst (lv_room hrm) hdg ⟨hcs.1, hcs.2⟩) kk
  obtain ⟨q0, q1, q2, q3, q4⟩ := fz_pre X hW As U hU hw
  refine ⟨q0, q1, q2, q3, q4, ?_, by rw [hU]; exact Nat.lt_of_lt_of_le hbl hW.2.2.1, fun z => hbA (hF _ z)⟩
  rw [hU]
  exact va_X.moved hw.alike (va_X.kept hX (hW.2.2.2.1 b0 hbl hbA))
end FP
/-- what a cell of the script holds -/
def celI (xs : Nat → Int32) (L t : Nat) : Int32 := if L ≤ t then 1000308237 * (nI t + 1) + 751363411 else xs t
set_option maxHeartbeats 4000000 in
theorem c_L_cell (l : Launch) (g : GG) (ws : va_W) (b0 L : Nat) (xs : Nat → Int32) (t : Nat) (hL : L < 2 ^ 31) (ht : t < 2 ^ 31) : fz_CS l g yL_cell cL_cell 2 (some .int) 0 0 [.ref b0, .int (nI t)] ws b0 L xs (some (.int (celI xs L t))) := by
  intro sz
  refine Met.ofW (cc := cL_cell) (maxL := 2) (ret := some .int) (by decide) rfl ?_
  intro p e s m args below meth c s₁ B hml hv
  obtain ⟨rfl, hsz, hP, hE, hD0, hX, hbl, hbA⟩ := hv
  subst hsz
  have hD : va_D (va_A ws s.heap.size) ws := hD0.self (sz := s.heap.size)
  have hl := lv_entry ([.ref b0, .int (nI t)]) (n := 2) (Nat.le_of_ble_eq_true rfl)
  rw [lg_entry_eq]
  generalize (lg_sl ([.ref b0, .int (nI t)]) ++ List.replicate (2 - (lg_sl ([.ref b0, .int (nI t)])).length) Slot.unset).toArray = ls at hl ⊢
  have hl : lv_has ls 2 [(0, .ref b0), (1, .int (nI t))] := hl
  have X : fz_X p s m meth c RL cL_cell 2 (some .int) g (va_A ws s.heap.size) := ⟨B.exec, B.bytes, B.returns, hml, findClass_of_methodNamed B.named, B.notSynchronized, hE, fun q h => Or.inr h⟩
  have hW : fz_W g (va_A ws s.heap.size) s ws s.heap [] := ⟨hP, hD, va_S.rf⟩
  have hx := X.1
  have hb := X.2.1
  refine lv_iload_n hx hb dL_cell_0 rfl (lv_at hl 1 rfl) ?_
  refine lv_aload_n hx hb dL_cell_1 rfl (lv_at hl 0 rfl) ?_
  refine va_slen X.1 X.2.1 hX hbl hbA hW.2.2 dL_cell_2 ?_
  refine lv_icmp_ge (tgt := 12) hx hb dL_cell_3 (by decide) (fun c3 => ?_) (fun c3 => ?_)
  · have h3 : L ≤ t := (nI_leI hL ht).mp c3
    refine lv_ldc hx hb X.2.2.2.2.1 (X.2.2.2.2.2.2.1.use mk_415 _) dL_cell_12 ?_
    refine lv_iload_n hx hb dL_cell_14 rfl (lv_at hl 1 rfl) ?_
    refine lv_iconst (v := 1) hx hb dL_cell_15 (by decide) ?_
    refine lv_iadd hx hb dL_cell_16 ?_
    refine lv_imul hx hb dL_cell_17 ?_
    refine lv_ldc hx hb X.2.2.2.2.1 (X.2.2.2.2.2.2.1.use mk_416 _) dL_cell_18 ?_
    refine lv_iadd hx hb dL_cell_20 ?_
    exact fz_ri X hW (if_pos h3).symm dL_cell_21
  · have h3 : ¬ L ≤ t := fun z => c3 ((nI_leI hL ht).mpr z)
    refine lv_aload_n hx hb dL_cell_6 rfl (lv_at hl 0 rfl) ?_
    refine lv_iload_n hx hb dL_cell_7 rfl (lv_at hl 1 rfl) ?_
    refine va_sld X.1 X.2.1 hX hbl hbA hW.2.2 (vp_in_nI (by omega) hL) dL_cell_8 ?_
    rw [nI_clamp ht]
    refine lv_goto (tgt := 21) hx hb dL_cell_9 (by decide) ?_
    exact fz_ri X hW (if_neg h3).symm dL_cell_21

theorem xl_io : fz_M (.classLink RL 42 XIO) := ⟨List.mem_of_getElem? (i := 442) (by decide +kernel), by decide +kernel⟩
theorem xl_ia : fz_M (.classLink RL 44 XIA) := ⟨List.mem_of_getElem? (i := 443) (by decide +kernel), by decide +kernel⟩
theorem xs_io : fz_M (.castable XIO XIO) := ⟨List.mem_of_getElem? (i := 155) (by decide +kernel), by decide +kernel⟩
theorem xs_ia : fz_M (.castable XIA XIA) := ⟨List.mem_of_getElem? (i := 223) (by decide +kernel), by decide +kernel⟩
theorem ii_L : fz_M (.initialized RL) := ⟨List.mem_of_getElem? (i := 14) (by decide +kernel), by decide +kernel⟩
/-- what is thrown where a tile, a block, a budget is asked -/
theorem exT_E {x y : Int32} {E : String} (h : exT x y = some E) : E = XIO := by
  unfold exT at h
  split at h
  · cases h
  · exact (Option.some.inj h).symm
theorem exG_E {x : Int32} {E : String} (h : exG x = some E) : E = XIA := by
  unfold exG at h
  split at h
  · cases h
  · exact (Option.some.inj h).symm
theorem exK_E {k : Nat} {x : Int32} {E : String} (h : exK k x = some E) : E = XIO := by
  unfold exK at h
  split at h
  · cases h
  · exact (Option.some.inj h).symm
theorem exS_E {x : Int32} {E : String} (h : exS x = some E) : E = XIA := by
  unfold exS at h
  split at h
  · cases h
  · exact (Option.some.inj h).symm
theorem exF_E {x y w z q : Int32} {E : String} (h : exF x y w z q = some E) : E = XIO ∨ E = XIA := by
  unfold exF at h
  split at h
  · split at h
    · cases h
    · exact Or.inr (Option.some.inj h).symm
  · exact Or.inl (Option.some.inj h).symm
theorem exM_E {x y w z x2 y2 : Int32} {E : String} (h : exM x y w z x2 y2 = some E) : E = XIO ∨ E = XIA := by
  unfold exM at h
  split at h
  · split at h
    · split at h
      · exact Or.inr (Option.some.inj h).symm
      · cases h
    · exact Or.inl (Option.some.inj h).symm
  · exact Or.inl (Option.some.inj h).symm
/-! the law's world: the class, the law's rows, one row more -/
abbrev LW (g : GG) (f : Nat) (a d : Nat → Nat) (v u : SV) (r : Nat → Nat) (x : LV) : va_W := FW g f a d v u ++ RW g r x
abbrev RO (g : GG) (r : Nat → Nat) (x : LV) (q : Nat) (o : Nat → Int32) : va_W := RW g r x ++ [(q, .inl (g.2 0, 48, .inl o))]
abbrev LO (g : GG) (f : Nat) (a d : Nat → Nat) (v u : SV) (r : Nat → Nat) (x : LV) (q : Nat) (o : Nat → Int32) : va_W := LW g f a d v u r x ++ [(q, .inl (g.2 0, 48, .inl o))]
set_option maxRecDepth 100000 in
theorem fz_C.k7 {l : Launch} {g : GG} {y : MethodName} {b : ByteArray} {n : Nat} {ret : Option FieldType} {rf rl : Nat} {as : List Value} {v9 : Option Value} {r : Nat → Nat} {x : LV} {kn1 : Nat → Int32} (h : fz_C l g y b n ret rf rl as [(r 5, .inl (g.2 0, 9, .inl x.kn))] [(r 5, .inl (g.2 0, 9, .inl kn1))] v9) : fz_C l g y b n ret rf rl as (RW g r x) (RW g r (x.knS kn1)) v9 :=
  fz_C.fr h [5] [0, 1, 2, 3, 4, 6] [0, 1, 2, 3, 4, 6, 5] rfl rfl rfl rfl (by decide) rfl rfl
set_option maxRecDepth 100000 in
theorem fz_C.k8 {l : Launch} {g : GG} {y : MethodName} {b : ByteArray} {n : Nat} {ret : Option FieldType} {rf rl : Nat} {as : List Value} {v9 : Option Value} {r : Nat → Nat} {x : LV} {q : Nat} {o kn1 : Nat → Int32} (h : fz_C l g y b n ret rf rl as [(r 5, .inl (g.2 0, 9, .inl x.kn))] [(r 5, .inl (g.2 0, 9, .inl kn1))] v9) : fz_C l g y b n ret rf rl as (RO g r x q o) (RO g r (x.knS kn1) q o) v9 :=
  fz_C.fr h [5] [0, 1, 2, 3, 4, 6, 7] [0, 1, 2, 3, 4, 7, 5, 6] rfl rfl rfl rfl (by decide) rfl rfl
set_option maxRecDepth 100000 in
theorem fz_C.r8 {l : Launch} {g : GG} {y : MethodName} {b : ByteArray} {n : Nat} {ret : Option FieldType} {rf rl : Nat} {as : List Value} {v9 : Option Value} {r : Nat → Nat} {x x1 : LV} {q : Nat} {o : Nat → Int32} (h : fz_C l g y b n ret rf rl as (RW g r x) (RW g r x1) v9) : fz_C l g y b n ret rf rl as (RO g r x q o) (RO g r x1 q o) v9 :=
  fz_C.fr h [0, 1, 2, 3, 4, 5, 6] [7] [1, 2, 3, 4, 5, 6, 7, 0] rfl rfl rfl rfl (by decide) rfl rfl
set_option maxRecDepth 100000 in
theorem fz_C.s7 {l : Launch} {g : GG} {y : MethodName} {b : ByteArray} {n : Nat} {ret : Option FieldType} {rf rl : Nat} {as : List Value} {v9 : Option Value} {r : Nat → Nat} {x : LV} {f1 : Nat → Int32} (h : fz_C l g y b n ret rf rl as (HW g (r 1) (r 4) x.f x.w) (HW g (r 1) (r 4) f1 x.w) v9) : fz_C l g y b n ret rf rl as (RW g r x) (RW g r (x.fS f1)) v9 :=
  fz_C.fr h [1, 4] [0, 2, 3, 5, 6] [0, 5, 1, 2, 6, 3, 4] rfl rfl rfl rfl (by decide) rfl rfl
set_option maxRecDepth 100000 in
theorem fz_C.lf {l : Launch} {g : GG} {y : MethodName} {b : ByteArray} {n : Nat} {ret : Option FieldType} {rf rl : Nat} {as : List Value} {v9 : Option Value} {f : Nat} {a d : Nat → Nat} {v u v1 u1 : SV} (h : fz_C l g y b n ret rf rl as (FW g f a d v u) (FW g f a d v1 u1) v9) (r : Nat → Nat) (x : LV) : fz_C l g y b n ret rf rl as (LW g f a d v u r x) (LW g f a d v1 u1 r x) v9 :=
  fz_C.fr h [0, 1, 2, 3, 4, 5, 6, 7, 8, 9, 10, 11, 12, 13, 14, 15, 16, 17, 18, 19, 20, 21, 22, 23, 24, 25, 26, 27, 28, 29, 30, 31, 32, 33, 34] [35, 36, 37, 38, 39, 40, 41] [7, 8, 9, 10, 11, 12, 13, 14, 15, 16, 17, 18, 19, 20, 21, 22, 23, 24, 25, 26, 27, 28, 29, 30, 31, 32, 33, 34, 35, 36, 37, 38, 39, 40, 41, 0, 1, 2, 3, 4, 5, 6] rfl rfl rfl rfl (by decide) rfl rfl
set_option maxRecDepth 100000 in
theorem fz_C.lr {l : Launch} {g : GG} {y : MethodName} {b : ByteArray} {n : Nat} {ret : Option FieldType} {rf rl : Nat} {as : List Value} {v9 : Option Value} {r : Nat → Nat} {x x1 : LV} (h : fz_C l g y b n ret rf rl as (RW g r x) (RW g r x1) v9) (f : Nat) (a d : Nat → Nat) (v u : SV) : fz_C l g y b n ret rf rl as (LW g f a d v u r x) (LW g f a d v u r x1) v9 :=
  fz_C.fr h [35, 36, 37, 38, 39, 40, 41] [0, 1, 2, 3, 4, 5, 6, 7, 8, 9, 10, 11, 12, 13, 14, 15, 16, 17, 18, 19, 20, 21, 22, 23, 24, 25, 26, 27, 28, 29, 30, 31, 32, 33, 34] [0, 1, 2, 3, 4, 5, 6, 7, 8, 9, 10, 11, 12, 13, 14, 15, 16, 17, 18, 19, 20, 21, 22, 23, 24, 25, 26, 27, 28, 29, 30, 31, 32, 33, 34, 35, 36, 37, 38, 39, 40, 41] rfl rfl rfl rfl (by decide) rfl rfl
set_option maxRecDepth 100000 in
theorem fz_C.l3 {l : Launch} {g : GG} {y : MethodName} {b : ByteArray} {n : Nat} {ret : Option FieldType} {rf rl : Nat} {as : List Value} {v9 : Option Value} {r : Nat → Nat} {x x1 : LV} (h : fz_C l g y b n ret rf rl as (RW g r x) (RW g r x1) v9) (f : Nat) (a d : Nat → Nat) (v u : SV) (q : Nat) (o : Nat → Int32) : fz_C l g y b n ret rf rl as (LO g f a d v u r x q o) (LO g f a d v u r x1 q o) v9 :=
  fz_C.fr h [35, 36, 37, 38, 39, 40, 41] [0, 1, 2, 3, 4, 5, 6, 7, 8, 9, 10, 11, 12, 13, 14, 15, 16, 17, 18, 19, 20, 21, 22, 23, 24, 25, 26, 27, 28, 29, 30, 31, 32, 33, 34, 42] [0, 1, 2, 3, 4, 5, 6, 7, 8, 9, 10, 11, 12, 13, 14, 15, 16, 17, 18, 19, 20, 21, 22, 23, 24, 25, 26, 27, 28, 29, 30, 31, 32, 33, 34, 36, 37, 38, 39, 40, 41, 42, 35] rfl rfl rfl rfl (by decide) rfl rfl
set_option maxRecDepth 100000 in
theorem fz_C.ls {l : Launch} {g : GG} {y : MethodName} {b : ByteArray} {n : Nat} {ret : Option FieldType} {rf rl : Nat} {as : List Value} {v9 : Option Value} {r : Nat → Nat} {x : LV} {q : Nat} {o o1 : Nat → Int32} (h : fz_C l g y b n ret rf rl as (HW g q (r 4) o x.w) (HW g q (r 4) o1 x.w) v9) (f : Nat) (a d : Nat → Nat) (v u : SV) : fz_C l g y b n ret rf rl as (LO g f a d v u r x q o) (LO g f a d v u r x q o1) v9 :=
  fz_C.fr h [42, 39] [0, 1, 2, 3, 4, 5, 6, 7, 8, 9, 10, 11, 12, 13, 14, 15, 16, 17, 18, 19, 20, 21, 22, 23, 24, 25, 26, 27, 28, 29, 30, 31, 32, 33, 34, 35, 36, 37, 38, 40, 41] [0, 1, 2, 3, 4, 5, 6, 7, 8, 9, 10, 11, 12, 13, 14, 15, 16, 17, 18, 19, 20, 21, 22, 23, 24, 25, 26, 27, 28, 29, 30, 31, 32, 33, 34, 35, 36, 37, 38, 42, 39, 40, 41] rfl rfl rfl rfl (by decide) rfl rfl
set_option maxRecDepth 100000 in
theorem fz_CH.lf {l : Launch} {g : GG} {y : MethodName} {b : ByteArray} {n : Nat} {hh : List (Nat × Nat × Nat × Nat)} {rf rc rs rl : Nat} {as : List Value} {v9 : Int32} {f : Nat} {a d : Nat → Nat} {v u : SV} (h : fz_CH l g y b n hh rf rc rs rl as (FW g f a d v u) (FW g f a d v u) v9) (r : Nat → Nat) (x : LV) : fz_CH l g y b n hh rf rc rs rl as (LW g f a d v u r x) (LW g f a d v u r x) v9 :=
  fz_CH.frame h [0, 1, 2, 3, 4, 5, 6, 7, 8, 9, 10, 11, 12, 13, 14, 15, 16, 17, 18, 19, 20, 21, 22, 23, 24, 25, 26, 27, 28, 29, 30, 31, 32, 33, 34] [35, 36, 37, 38, 39, 40, 41] [7, 8, 9, 10, 11, 12, 13, 14, 15, 16, 17, 18, 19, 20, 21, 22, 23, 24, 25, 26, 27, 28, 29, 30, 31, 32, 33, 34, 35, 36, 37, 38, 39, 40, 41, 0, 1, 2, 3, 4, 5, 6] rfl rfl rfl rfl (by decide) rfl rfl
