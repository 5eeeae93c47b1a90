/-! methods that return or throw -/
abbrev XIO : String := "java/lang/IndexOutOfBoundsException"
abbrev XIA : String := "java/lang/IllegalArgumentException"
abbrev XNM : List String := ["java/lang/RuntimeException", "java/lang/Exception"]
theorem xm_io : ∀ w ∈ vx_atS RX3 103 XIO XNM, w ∈ lw_tbl ∧ fz_keep w = true := by decide +kernel
theorem xm_ia : ∀ w ∈ vx_atS RX3 27 XIA XNM, w ∈ lw_tbl ∧ fz_keep w = true := by decide +kernel
theorem xg_io : ∀ w ∈ Cond.classLink RX3 99 XIO :: Cond.initialized XIO :: vx_atS RX3 103 XIO XNM, vx_ot w = true := by decide +kernel
theorem xg_ia : ∀ w ∈ Cond.classLink RX3 23 XIA :: Cond.initialized XIA :: vx_atS RX3 27 XIA XNM, vx_ot w = true := by decide +kernel
theorem xk_io : fz_M (.classLink RX3 99 XIO) := ⟨List.mem_of_getElem? (i := 153) (by decide +kernel), by decide +kernel⟩
theorem xk_ia : fz_M (.classLink RX3 23 XIA) := ⟨List.mem_of_getElem? (i := 221) (by decide +kernel), by decide +kernel⟩
theorem xi_io : fz_M (.initialized XIO) := ⟨List.mem_of_getElem? (i := 22) (by decide +kernel), by decide +kernel⟩
theorem xi_ia : fz_M (.initialized XIA) := ⟨List.mem_of_getElem? (i := 23) (by decide +kernel), by decide +kernel⟩
def fz_Z (A : Nat → Prop) (U : State) (H : Heap) : Prop := vx_Zq Bundle.tN "UNASSIGNED_STACK" Bundle.steD A U H ∧ vx_Zq Bundle.tN "SUPPRESSED_SENTINEL" Bundle.listD A U H
def fz_strs : List (Nat × String) := [(129, "no such tile"), (131, "no such block"), (25, "no such picture"), (38, "the block would come to where it is"), (133, "no such budget"), (101, "not so many pictures are known"), (107, "nothing is sent so")]
def fz_T (U : State) : Prop := ∀ q ∈ fz_strs, ∃ sa : Nat, vk_R RX3 q.1 q.2 sa U
def fz_PX (g : GG) (as : List Value) (W0 : va_W) (sz : Nat) : Array Value → State → Prop := va_Pc as (fun U => U.heap.size = sz ∧ va_P g.1 classes W0 U.heap ∧ fz_E g U ∧ va_D (fun _ => True) W0 ∧ fz_Z (va_A W0 sz) U U.heap ∧ fz_T U)
def fz_QX (ex : Option String) (g : GG) (W1 : va_W) (v : Option Value) (A : Nat → Prop) : Array Value → State → Outcome → State → Prop := fun a st o t => ex = none ∧ fz_Q g W1 v A a st o t
def fz_XX (ex : Option String) (g : GG) (W0 : va_W) (A : Nat → Prop) : String → State → State → Prop := fun E st t => ex = some E ∧ va_P g.1 classes W0 t.heap ∧ va_D A W0 ∧ va_F A st t
/-- a contract: v is answered over the world W1, or E is thrown and the world is as it was -/
def fz_CX (l : Launch) (g : GG) (y : MethodName) (b : ByteArray) (n : Nat) (ret : Option FieldType) (rf rc rs rl : Nat) (as : List Value) (W0 W1 : va_W) (v : Option Value) (ex : Option String) : Prop :=
  ∀ sz : Nat, vx_Met l y [.code y b n ret] (fz_R rf rc rs rl) (fz_PX g as W0 sz) (fz_QX ex g W1 v (va_A W0 sz)) (fz_XX ex g W0 (va_A W0 sz)) rc rs (va_A W0 sz)
def fz_Y (s : State) (A : Nat → Prop) : Prop := fz_Z A s s.heap ∧ fz_T s
theorem fz_Z.call {A : Nat → Prop} {U : State} {f : JFrame} {mk : MethodId} {a : Array Value} (h : fz_Z A U U.heap) : fz_Z A (U.calling f mk a) (U.calling f mk a).heap := ⟨vx_Zq.moved (u := U) (U := U.calling f mk a) (Vm.Alike.refl U.vm) h.1, vx_Zq.moved (u := U) (U := U.calling f mk a) (Vm.Alike.refl U.vm) h.2⟩
theorem fz_T.call {U : State} {f : JFrame} {mk : MethodId} {a : Array Value} (h : fz_T U) : fz_T (U.calling f mk a) := fun q hq => (h q hq).imp fun _ k => vk_R.same (u := U) (U := U.calling f mk a) rfl k
theorem fz_T.warm {s U : State} (hW : s.WarmedH U.vm) (h : fz_T s) : fz_T U := fun q hq => (h q hq).imp fun _ k => vk_R.warm hW k
theorem fz_Z.warm {A B : Nat → Prop} {s U : State} {H0 H : Heap} {locs : List Loc} (hW : s.WarmedH U.vm) (h : fz_Z A s H0) (hS : va_S A H0 H locs) (hAB : ∀ q, B q → A q) : fz_Z B U H := ⟨vx_Zq.narrow (vx_Zq.moved hW.alike (vx_Zq.kept h.1 hS.2.1)) hAB, vx_Zq.narrow (vx_Zq.moved hW.alike (vx_Zq.kept h.2 hS.2.1)) hAB⟩
theorem fz_PX.blind {g : GG} {as : List Value} {W0 : va_W} {sz : Nat} : FrameBlind (fz_PX g as W0 sz) := fun a U f mk q => by
  obtain ⟨q0, q1, qP, qE, qD, qZ, qT⟩ := q
  exact ⟨q0, q1, qP, fz_E.call qE, qD, fz_Z.call qZ, fz_T.call qT⟩
theorem fz_CX.of {l : Launch} {g : GG} {y : MethodName} {b : ByteArray} {n : Nat} {ret : Option FieldType} {rf rc rs rl : Nat} {as : List Value} {W0 W1 : va_W} {v : Option Value} {ex : Option String} (hy : plainName y.cls = true) (hn : (lg_sl as).length ≤ n)
    (body : ∀ (p : Program) (e : Env) (s : State) (m : MethodId) (args : Array Value) (below : List Frame) (meth : Method) (c : Code) (A : Nat → Prop) (ls : Array Slot), fz_X p s m meth c y.cls b n ret g A → fz_Y s A → (∀ x ∈ c.exceptionTable.toList, False) → fz_W g A s W0 s.heap [] → lv_has ls n (lv_args 0 as) →
      W p l e (fz_R rf rc rs rl) s m args below meth c s.heap [] 0 0 (vx_MQ below (fz_QX ex g W1 v A) (fz_XX ex g W0 A) args s rc rs A) (F0 m 0 ls [])) : fz_CX l g y b n ret rf rc rs rl as W0 W1 v ex := by
  intro sz
  refine vx_ofW (cc := b) (maxL := n) (ret := ret) hy rfl ?_
  intro p e s m args below meth c s₁ B hml htab hv
  obtain ⟨rfl, hsz, hP, hE, hD0, hZ, hT⟩ := hv
  subst hsz
  have hD : va_D (va_A W0 s.heap.size) W0 := hD0.self (sz := s.heap.size)
  have hl := lv_entry as (n := n) hn
  rw [lg_entry_eq]
  exact body p e s m as.toArray below meth c _ _ ⟨B.exec, B.bytes, B.returns, hml, findClass_of_methodNamed B.named, B.notSynchronized, hE, fun q h => Or.inr h⟩ ⟨hZ, hT⟩ htab ⟨hP, hD, va_S.rf⟩ hl
theorem fz_consX {l : Launch} {y : MethodName} {ws : List Cond} {rm : Room} {Pc Pc' : Array Value → State → Prop} {Qc Qc' : Array Value → State → Outcome → State → Prop} {XC XC' : String → State → State → Prop} {mc ms : Nat} {free free' : Addr → Prop} (h : vx_Met l y ws rm Pc Qc XC mc ms free)
    (hP : ∀ a s, Pc' a s → Pc a s) (hQ : ∀ a s o t, Pc' a s → Qc a s o t → Qc' a s o t) (hX : ∀ a E s t, Pc' a s → XC E s t → XC' E s t) (hf : ∀ q, free q → free' q) : vx_Met l y ws rm Pc' Qc' XC' mc ms free' := by
  intro p e ha hc hk s m args below hfr happ hp hK
  obtain ⟨k, o, h1, h2, h3, h4⟩ := h p e ha hc hk s m args below hfr happ (hP _ _ hp) hK
  refine ⟨k, o, h1, h2, h3, ?_⟩
  rcases h4 with ⟨h4, L, h5, h6⟩ | ⟨q, h4, E, ce, L, h5, h6, h7, h8, h9, h10, h11⟩
  · exact Or.inl ⟨hQ _ _ _ _ hp h4, L, h5, fun q hq => hf _ (h6 q hq)⟩
  · exact Or.inr ⟨q, h4, E, ce, L, hX _ _ _ _ hp h5, h6, h7, h8, h9, h10, fun z hz => hf _ (h11 z hz)⟩
theorem fz_CX.frame {l : Launch} {g : GG} {y : MethodName} {b : ByteArray} {n : Nat} {ret : Option FieldType} {rf rc rs rl : Nat} {as : List Value} {wc w1 : va_W} {v : Option Value} {ex : Option String} (h : fz_CX l g y b n ret rf rc rs rl as wc w1 v ex) {ws ws1 : va_W} (isC isR isX : List Nat)
    (hC : isC.map (fun i => ws[i]?) = wc.map some) (hc : va_nd isC = true) (hR : isR.map (fun i => ws[i]?) = (isR.filterMap (fun i => ws[i]?)).map some) (hn : va_nd isR = true) (hdis : ∀ i ∈ isR, i ∉ isC) (hX : isX.map (fun i => (isR.filterMap (fun i => ws[i]?) ++ w1)[i]?) = ws1.map some) (hX0 : isX.map (fun i => (isR.filterMap (fun i => ws[i]?) ++ wc)[i]?) = ws.map some) (hx : va_nd isX = true) : fz_CX l g y b n ret rf rc rs rl as ws ws1 v ex := by
  intro sz
  refine fz_consX (h sz) ?_ ?_ ?_ (fz_A.sub isC hC)
  · intro a s hp
    obtain ⟨h1, h2, h3, h4, h5, h6, h7⟩ := hp
    exact ⟨h1, h2, fz_P.pick h3 isC hC, h4, h5.sub isC hc hC, ⟨vx_Zq.narrow h6.1 (fz_A.sub isC hC), vx_Zq.narrow h6.2 (fz_A.sub isC hC)⟩, h7⟩
  · intro a s o t hp hq
    obtain ⟨h1, h2, h3, h4, h5, h6, h7⟩ := hp
    obtain ⟨q0, ⟨q1, q2, q3⟩, q4, q5⟩ := hq
    subst h2
    have hD5 : va_D (va_A ws s.heap.size) ws := h5.self
    obtain ⟨j1, j2⟩ := va_join (A0 := va_A ws s.heap.size) h3 hD5 isC isR hC hR hn hdis q5 (fz_A.sub isC hC) q2 q3
    exact ⟨q0, ⟨q1, fz_P.pick j1 isX hX, j2.sub isX hx hX⟩, q4, fun q hq hA => q5 q hq (fun z => hA (fz_A.sub isC hC q z))⟩
  · intro a E s t hp hq
    obtain ⟨h1, h2, h3, h4, h5, h6, h7⟩ := hp
    obtain ⟨q0, q2, q3, q4, q5⟩ := hq
    subst h2
    have hD5 : va_D (va_A ws s.heap.size) ws := h5.self
    obtain ⟨j1, j2⟩ := va_join (A0 := va_A ws s.heap.size) h3 hD5 isC isR hC hR hn hdis q5 (fz_A.sub isC hC) q2 q3
    exact ⟨q0, fz_P.pick j1 isX hX0, j2.sub isX hx hX0, q4, fun q hq hA => q5 q hq (fun z => hA (fz_A.sub isC hC q z))⟩
section FZX
variable {p : Program} {l : Launch} {e : Env} {R : Room} {s : State} {m : MethodId} {args : Array Value} {below : List Frame} {meth : Method} {c : Code} {H : Heap} {locs : List Loc} {cells slots : Nat} {Q : State → Prop}
variable {own : String} {cc : ByteArray} {n : Nat} {ret : Option FieldType} {g : GG} {A : Nat → Prop} {ws W0 W1 : va_W} {v : Option Value} {ex : Option String} {rc rs : Nat} {pc : Nat} {ls : Array Slot} {rest : List Value} {a : Nat}
theorem fz_xt (X : fz_X p s m meth c RX3 cc n ret g A) (Y : fz_Y s A) (htab : ∀ x ∈ c.exceptionTable.toList, False) (hfl : l.stackTraces = false) (hW : fz_W g A s W0 H locs) {lv : List (Nat × Value)} (hl : lv_has ls n lv) {cls text : String} {ik is ic : Nat} (hcls : Bundle.fit cls = true) (hnm : ∀ z ∈ XNM, Bundle.fit z = true) (hk : fz_M (.classLink RX3 ik cls)) (hi : fz_M (.initialized cls)) (hat : ∀ w ∈ vx_atS RX3 ic cls XNM, w ∈ lw_tbl ∧ fz_keep w = true) (hgood : ∀ w ∈ Cond.classLink RX3 ik cls :: Cond.initialized cls :: vx_atS RX3 ic cls XNM, vx_ot w = true) (htx : (is, text) ∈ fz_strs) (hex : ex = some cls)
    (d0 : decode cc pc = .ok (.new ik, 3)) (d3 : decode cc (pc + 3) = .ok (.dup, 1)) (d4 : decode cc (pc + 4) = .ok (.ldc is, 2)) (d6 : decode cc (pc + 6) = .ok (.invokespecial ic, 3)) (d9 : decode cc (pc + 9) = .ok (.athrow, 1))
    (hfr : 5 < R.frames) (hlo : (rest.map fun v => v.category).sum + 82 ≤ R.locals) (hcR : cells + 1 ≤ R.cells ∧ slots + 6 ≤ R.slots) (hcm : cells + 1 ≤ rc ∧ slots + 6 ≤ rs) :
    W p l e R s m args below meth c H locs cells slots (vx_MQ below (fz_QX ex g W1 v A) (fz_XX ex g W0 A) args s rc rs A) (F0 m pc ls rest) := by
  have hE := X.2.2.2.2.2.2.1
  obtain ⟨sa, hsa⟩ := Y.2 _ htx
  refine vx_throwS (names := XNM) X.1 X.2.1 hfl X.2.2.2.2.1 hcls hnm (hE.use hk args) (hE.use hi args) hsa (fun w hw => hE.use (hat w hw) args) hgood Y.1.1 Y.1.2 hW.2.2 (hl.1.trans X.2.2.2.1.symm) d0 d3 d4 d6 d9 (fun x hx => absurd (htab x hx) id) hfr hlo hcR.1 hcR.2 X.2.2.2.2.2.1 (fun t ht hz hk => ?_) hW.2.2.2.2 hcm.1 hcm.2
  exact ⟨hex, hW.1.kept (fun k q hq => hk q.1 (vx_lt hW.1 hq)), hW.2.1, Nat.le_trans hW.2.2.1 hz, fun q h1 h2 => by rw [hk q (Nat.lt_of_lt_of_le h1 hW.2.2.1)]; exact hW.2.2.2.1 q h1 h2⟩
theorem fz_preX (X : fz_X p s m meth c own cc n ret g A) (Y : fz_Y s A) (hW : fz_W g A s ws H locs) (as : List Value) : ∀ U : State, U.heap = H → s.WarmedH U.vm → fz_PX g as ws H.size as.toArray U := by
  intro U hU hw
  have hF := fz_freeA X.2.2.2.2.2.2.2 hW
  exact ⟨rfl, by rw [hU], by rw [hU]; exact hW.1, fz_E.warm hw X.2.2.2.2.2.2.1, hW.2.1.weaken (fun _ _ _ _ => trivial), by rw [hU]; exact fz_Z.warm hw Y.1 hW.2.2 hF, fz_T.warm hw Y.2⟩
/-- behind a call of a method that returns or throws -/
theorem fz_xback (X : fz_X p s m meth c own cc n ret g A) (hW : fz_W g A s ws H locs) {ws1 : va_W} {v' : Option Value} {ex' : Option String} {mc ms : Nat} {st0 : List Value} {av : Array Value} (hr : vx_Run p l e R s m args below meth c H locs cells slots mc ms (F0 m pc ls st0) rest (fz_QX ex' g ws1 v' (va_A ws H.size) av) (fz_XX ex' g ws (va_A ws H.size)) (va_A ws H.size))
    (kx : ∀ (E : String) (q : Addr) (ce : Cell) (H1 : Heap) (locs1 : List Loc), ex' = some E → fz_W g A s ws H1 locs1 → H1[q]? = some ce → ce.vm = .none → s.vm.findClass E = some ce.cls → vx_W p l e R s m args below meth c H1 locs1 (cells + mc) (slots + ms) Q (F0 m pc ls rest) q)
    (kk : ∀ (H1 : Heap) (locs1 : List Loc), ex' = none → fz_W g A s ws1 H1 locs1 → W p l e R s m args below meth c H1 locs1 (cells + mc) (slots + ms) Q (F0 m (pc + 3) ls (v'.toList ++ rest))) : W p l e R s m args below meth c H locs cells slots Q (F0 m pc ls st0) := by
  have hF := fz_freeA X.2.2.2.2.2.2.2 hW
  intro T hT Y
  rcases hr T hT Y with ⟨v9, st₀, t, T', L, h0, X', hL, e1, e2, ⟨hex, ⟨hv, hP, hD⟩, hz, hk⟩, st⟩ | ⟨q, st₀, t, T', L, E, ce, h0, X', hL, e1, e2, ⟨hex, hP, hD, hz, hk⟩, hce, hcv, hcl, st⟩
  · cases hv
    rw [h0] at hz hk
    obtain ⟨t2, a1, b1⟩ := kk T'.heap (locs ++ L) hex ⟨by rw [e1]; exact hP, hD.weaken (fun k q _ h => hF q.1 h), Nat.le_trans hW.2.2.1 (by rw [e1]; exact hz), fun q h1 h2 => by rw [e1, hk q (Nat.lt_of_lt_of_le h1 hW.2.2.1) (fun z => h2 (hF q z))]; exact hW.2.2.2.1 q h1 h2, fun q hq => by
      rcases List.mem_append.mp hq with h | h
      · exact hW.2.2.2.2 q h
      · exact hF _ (hL q h)⟩ T' rfl X'
    exact ⟨t2, st t2 a1, b1⟩
  · rw [h0] at hz hk
    obtain ⟨t2, a1, b1⟩ := kx E q ce T'.heap (locs ++ L) hex ⟨by rw [e1]; exact hP, hD.weaken (fun k q _ h => hF q.1 h), Nat.le_trans hW.2.2.1 (by rw [e1]; exact hz), fun q h1 h2 => by rw [e1, hk q (Nat.lt_of_lt_of_le h1 hW.2.2.1) (fun z => h2 (hF q z))]; exact hW.2.2.2.1 q h1 h2, fun q hq => by
      rcases List.mem_append.mp hq with h | h
      · exact hW.2.2.2.2 q h
      · exact hF _ (hL q h)⟩ (by rw [e1]; exact hce) hcv hcl T' rfl X'
    exact ⟨t2, st.trans a1, b1⟩
/-- a check: a static method that throws or lets pass; what it throws goes on to the caller -/
theorem fz_xc (X : fz_X p s m meth c own cc n ret g A) (Y : fz_Y s A) (htab : ∀ x ∈ c.exceptionTable.toList, False) (hW : fz_W g A s W0 H locs) {y : MethodName} {b : ByteArray} {n' np rf rc' rs' rl idx : Nat} {As : List Value} {ex' : Option String} {lv : List (Nat × Value)} {st0 : List Value}
    (hM : fz_CX l g y b n' none rf rc' rs' rl As W0 W0 none ex') (hL : fz_LS own idx y b n' none np) (hp : ∀ E, ex' = some E → ex = some E) (hn : As.length = np) (hR : rf + 1 ≤ R.frames ∧ 8 + (n' + 11) + rl ≤ R.locals) (hl : lv_has ls n lv) (hst : st0 = As.reverse ++ rest) (hrm : (rest.map fun v => v.category).sum ≤ 8) (hdg : decode cc pc = .ok (.invokestatic idx, 3)) (hcR : cells + rc' ≤ R.cells ∧ slots + rs' ≤ R.slots) (hcm : cells + rc' ≤ rc ∧ slots + rs' ≤ rs)
    (kk : ∀ (H1 : Heap) (locs1 : List Loc), ex' = none → fz_W g A s W0 H1 locs1 → W p l e R s m args below meth c H1 locs1 (cells + rc') (slots + rs') (vx_MQ below (fz_QX ex g W1 v A) (fz_XX ex g W0 A) args s rc rs A) (F0 m (pc + 3) ls rest)) : W p l e R s m args below meth c H locs cells slots (vx_MQ below (fz_QX ex g W1 v A) (fz_XX ex g W0 A) args s rc rs A) (F0 m pc ls st0) := by
  have hE := X.2.2.2.2.2.2.1
  refine fz_xback X hW (vx_runS (y := y) (n := np) (Ts := []) ⟨X.1, X.2.1, X.2.2.2.1, X.2.2.2.2.1, fun _ h => absurd h List.not_mem_nil⟩ (hM H.size) ⟨fz_callB X hL.1 hL.2.1 hR, hE.use hL.2.2 _⟩ ⟨fz_PX.blind, fz_preX X Y hW _⟩ rfl hn hl.1 hst (lv_room hrm) hdg hcR) (fun E q ce H1 locs1 h1 h2 h3 h4 h5 => ?_) kk
  exact vx_out (fun x hx => absurd (htab x hx) id) X.2.2.2.2.2.1 h3 h4 h5 (fun t ht ha => ⟨hp E h1, by rw [ht]; exact h2.1, h2.2.1, by rw [ht]; exact h2.2.2.1, fun q q1 q2 => by rw [ht]; exact h2.2.2.2.1 q q1 q2⟩) h2.2.2.2.2 hcm.1 hcm.2
theorem fz_xri (X : fz_X p s m meth c own cc n (some .int) g A) (hW : fz_W g A s W1 H locs) (hex : ex = none) {x x' : Int32} (hv : x' = x) (hc : cells ≤ rc ∧ slots ≤ rs) (hdg : decode cc pc = .ok (.ireturn, 1)) : W p l e R s m args below meth c H locs cells slots (vx_MQ below (fz_QX ex g W1 (some (.int x)) A) (fz_XX ex g W0 A) args s rc rs A) (F0 m pc ls [.int x']) := by
  subst hv
  exact vx_ret (W.widen hc.1 hc.2 (W.iret X.1 X.2.1 X.2.2.1 (fun t ht _ => ⟨hex, ⟨rfl, by rw [ht]; exact hW.1, hW.2.1⟩, hW.2.2.F ht⟩) hW.2.2.2.2 hdg X.2.2.2.2.2.1))
theorem fz_xrv (X : fz_X p s m meth c own cc n none g A) (hW : fz_W g A s W1 H locs) (hex : ex = none) (hc : cells ≤ rc ∧ slots ≤ rs) (hdg : decode cc pc = .ok (.return_, 1)) : W p l e R s m args below meth c H locs cells slots (vx_MQ below (fz_QX ex g W1 none A) (fz_XX ex g W0 A) args s rc rs A) (F0 m pc ls []) :=
  vx_ret (W.widen hc.1 hc.2 (W.vret X.1 X.2.1 X.2.2.1 (fun t ht _ => ⟨hex, ⟨rfl, by rw [ht]; exact hW.1, hW.2.1⟩, hW.2.2.F ht⟩) hW.2.2.2.2 hdg X.2.2.2.2.2.1))
end FZX
