/-! the ground that all contracts of this claim stand on: one list of words for all methods, one form of contract, one row an instruction -/
abbrev classes : List vw_C := [(RX0, TX0, 6), (RX1, TX1, 2), (RX2, TX2, 14), (RX3, TX3, 2)]
abbrev GG : Type := va_G × (Nat → ClassId)
def fz_tys (g : GG) : List (ClassId × FieldType) := [(g.2 0, .int), (g.2 0, .int), (g.2 0, .int), (g.2 3, .object "FarScreen$BlockMove")]
def fz_nest (w : Cond) : Bool := match w with
  | .fieldLinkNest .. => true
  | .methodLinkNest .. => true
  | .castable .. => true
  | .declares _ => true
  | .arrayOver (.object _) => true
  | _ => false
def fz_keep (w : Cond) : Bool := goodWord w || fz_nest w
def fz_M (w : Cond) : Prop := w ∈ lw_tbl ∧ fz_keep w = true
def fz_E (g : GG) (U : State) : Prop := va_K g.1 classes (fz_tys g) U ∧ ∀ w, fz_M w → w.before #[] U = true
theorem fz_warm {w : Cond} (hk : fz_keep w = true) {s U : State} {a a' : Array Value} (hW : s.WarmedH U.vm) (h : w.before a s = true) : w.before a' U = true := by
  unfold fz_keep at hk
  rw [Bool.or_eq_true] at hk
  rcases hk with hk | hk
  · exact word_at hW (good_of_word hk) h
  · unfold fz_nest at hk
    split at hk
    · exact va_Nw.use rfl (va_Nw.warmF hW (va_Nw.of rfl h))
    · exact va_Nw.use rfl (va_Nw.warmM hW (va_Nw.of rfl h))
    · exact va_Nw.use rfl (va_Nw.warmC hW (va_Nw.of rfl h))
    · exact va_Nw.use rfl (va_Nw.warmD hW (va_Nw.of rfl h))
    · exact va_AO.use (va_AO.moved hW.alike (va_AO.of h))
    · cases hk
theorem fz_E.use {g : GG} {U : State} (h : fz_E g U) {w : Cond} (hm : fz_M w) (a : Array Value) : w.before a U = true := fz_warm hm.2 (State.WarmedH.refl U) (h.2 w hm)
theorem fz_E.warm {g : GG} {s U : State} (hW : s.WarmedH U.vm) (h : fz_E g s) : fz_E g U := ⟨va_K.moved hW.alike h.1, fun w hm => fz_warm hm.2 hW (h.2 w hm)⟩
theorem fz_E.call {g : GG} {U : State} {f : JFrame} {mk : MethodId} {a : Array Value} (h : fz_E g U) : fz_E g (U.calling f mk a) := ⟨va_K.moved (u := U) (U := U.calling f mk a) (Vm.Alike.refl U.vm) h.1, fun w hm => fz_warm (U := U.calling f mk a) hm.2 (State.WarmedH.refl U) (h.2 w hm)⟩
/-- what a body stands on -/
def fz_X (p : Program) (s : State) (m : MethodId) (meth : Method) (c : Code) (own : String) (cc : ByteArray) (n : Nat) (ret : Option FieldType) (g : GG) (A : Nat → Prop) : Prop :=
  p.tables.exec = Jvm.exec ∧ c.code = cc ∧ meth.sig.returnType = ret ∧ c.maxLocals = n ∧ s.vm.findClass own = some m.cls ∧ meth.locks = false ∧ fz_E g s ∧ ∀ q : Nat, s.heap.size ≤ q → A q
def fz_W (g : GG) (A : Nat → Prop) (s : State) (ws : va_W) (H : Heap) (locs : List Loc) : Prop := va_P g.1 classes ws H ∧ va_D A ws ∧ va_S A s.heap H locs
/-- a contract: the world W0 becomes the world W1, the answer is v -/
def fz_P (g : GG) (as : List Value) (W0 : va_W) (sz : Nat) : Array Value → State → Prop := va_Pc as (fun U => U.heap.size = sz ∧ va_P g.1 classes W0 U.heap ∧ fz_E g U ∧ va_D (fun _ => True) W0)
def fz_Q (g : GG) (W1 : va_W) (v : Option Value) (A : Nat → Prop) : Array Value → State → Outcome → State → Prop := fun _ st oc t => (oc = .returned v ∧ va_P g.1 classes W1 t.heap ∧ va_D A W1) ∧ va_F A st t
abbrev fz_R (rf rc rs rl : Nat) : Room := { frames := rf, cells := rc, slots := rs, locals := rl }
def fz_C (l : Launch) (g : GG) (y : MethodName) (b : ByteArray) (n : Nat) (ret : Option FieldType) (rf rl : Nat) (as : List Value) (W0 W1 : va_W) (v : Option Value) : Prop :=
  ∀ sz : Nat, Met l y [.code y b n ret] (fz_R rf 0 0 rl) (fz_P g as W0 sz) (fz_Q g W1 v (va_A W0 sz)) 0 0 (va_A W0 sz)
theorem fz_P.blind {g : GG} {as : List Value} {W0 : va_W} {sz : Nat} : FrameBlind (fz_P g as W0 sz) := fun a U f mk q => by
  obtain ⟨q0, q1, qP, qE, qD⟩ := q
  exact ⟨q0, q1, qP, fz_E.call qE, qD⟩
theorem fz_C.of {l : Launch} {g : GG} {y : MethodName} {b : ByteArray} {n : Nat} {ret : Option FieldType} {rf rl : Nat} {as : List Value} {W0 W1 : va_W} {v : Option Value} (hy : plainName y.cls = true) (hn : (lg_sl as).length ≤ n)
    (body : ∀ (p : Program) (e : Env) (s : State) (m : MethodId) (args : Array Value) (below : List Frame) (meth : Method) (c : Code) (A : Nat → Prop) (ls : Array Slot), fz_X p s m meth c y.cls b n ret g A → fz_W g A s W0 s.heap [] → lv_has ls n (lv_args 0 as) →
      W p l e (fz_R rf 0 0 rl) s m args below meth c s.heap [] 0 0 (MQ below (fz_Q g W1 v A) args s 0 0 A) (F0 m 0 ls [])) : fz_C l g y b n ret rf rl as W0 W1 v := by
  intro sz
  refine Met.ofW (cc := b) (maxL := n) (ret := ret) hy rfl ?_
  intro p e s m args below meth c s₁ B hml hv
  obtain ⟨rfl, hsz, hP, hE, hD0⟩ := hv
  subst hsz
  have hD : va_D (va_A W0 s.heap.size) W0 := hD0.self (sz := s.heap.size)
  have hl := lv_entry as (n := n) hn
  rw [lg_entry_eq]
  exact body p e s m as.toArray below meth c _ _ ⟨B.exec, B.bytes, B.returns, hml, findClass_of_methodNamed B.named, B.notSynchronized, hE, fun q h => Or.inr h⟩ ⟨hP, hD, va_S.rf⟩ hl
/-- weaker before, stronger behind -/
theorem fz_cons {l : Launch} {y : MethodName} {ws : List Cond} {rm : Room} {Pc Pc' : Array Value → State → Prop} {Qc Qc' : Array Value → State → Outcome → State → Prop} {mc ms : Nat} {free free' : Addr → Prop} (h : Met l y ws rm Pc Qc mc ms free)
    (hP : ∀ a s, Pc' a s → Pc a s) (hQ : ∀ a s o t, Pc' a s → Qc a s o t → Qc' a s o t) (hf : ∀ q, free q → free' q) : Met l y ws rm Pc' Qc' mc ms free' := by
  intro p e ha hc hk s m args below hfr happ hp hK
  obtain ⟨k, o, h1, h2, h3, h4, L, h5, h6⟩ := h p e ha hc hk s m args below hfr happ (hP _ _ hp) hK
  exact ⟨k, o, h1, h2, h3, hQ _ _ _ _ hp h4, L, h5, fun q hq => hf _ (h6 q hq)⟩
theorem fz_A.sub {ws wc : va_W} {sz : Nat} (isC : List Nat) (hC : isC.map (fun i => ws[i]?) = wc.map some) : ∀ q, va_A wc sz q → va_A ws sz q := by
  intro q h
  rcases h with ⟨k, e, h⟩ | h
  · have h1 : (isC.map (fun i => ws[i]?))[k]? = some (some (q, e)) := by rw [hC, List.getElem?_map, h]; rfl
    rw [List.getElem?_map] at h1
    cases hi : isC[k]? with
    | none => rw [hi] at h1; cases h1
    | some i => rw [hi] at h1; exact Or.inl ⟨i, e, Option.some.inj h1⟩
  · exact Or.inr h
theorem fz_P.pick {D : va_G} {cl : List vw_C} {ws wc : va_W} {H : Heap} (h : va_P D cl ws H) (isC : List Nat) (hC : isC.map (fun i => ws[i]?) = wc.map some) : va_P D cl wc H := by
  intro k q hq
  have h1 : (isC.map (fun i => ws[i]?))[k]? = some (some q) := by rw [hC, List.getElem?_map, hq]; rfl
  rw [List.getElem?_map] at h1
  cases hi : isC[k]? with
  | none => rw [hi] at h1; cases h1
  | some i => rw [hi] at h1; exact h i q (Option.some.inj h1)
/-- the frame rule, of a contract: the rest of a larger world is as it was -/
theorem fz_C.frame {l : Launch} {g : GG} {y : MethodName} {b : ByteArray} {n : Nat} {ret : Option FieldType} {rf rl : Nat} {as : List Value} {wc w1 : va_W} {v : Option Value} (h : fz_C l g y b n ret rf rl as wc w1 v) {ws wr ws1 : va_W} (isC isR isX : List Nat)
    (hC : isC.map (fun i => ws[i]?) = wc.map some) (hc : va_nd isC = true) (hR : isR.map (fun i => ws[i]?) = wr.map some) (hn : va_nd isR = true) (hdis : ∀ i ∈ isR, i ∉ isC) (hX : isX.map (fun i => (wr ++ w1)[i]?) = ws1.map some) (hx : va_nd isX = true) : fz_C l g y b n ret rf rl as ws ws1 v := by
  intro sz
  refine fz_cons (h sz) ?_ ?_ (fz_A.sub isC hC)
  · intro a s hp
    obtain ⟨h1, h2, h3, h4, h5⟩ := hp
    exact ⟨h1, h2, fz_P.pick h3 isC hC, h4, h5.sub isC hc hC⟩
  · intro a s o t hp hq
    obtain ⟨h1, h2, h3, h4, h5⟩ := hp
    obtain ⟨⟨q1, q2, q3⟩, q4, q5⟩ := hq
    subst h2
    have hD5 : va_D (va_A ws s.heap.size) ws := h5.self
    obtain ⟨j1, j2⟩ := va_join (A0 := va_A ws s.heap.size) h3 hD5 isC isR hC hR hn hdis q5 (fz_A.sub isC hC) q2 q3
    exact ⟨⟨q1, fz_P.pick j1 isX hX, j2.sub isX hx hX⟩, q4, fun q hq hA => q5 q hq (fun z => hA (fz_A.sub isC hC q z))⟩
/-- calls -/
def fz_LB (y : MethodName) (b : ByteArray) (n : Nat) (ret : Option FieldType) (np : Nat) : Prop := fz_M (.initialized y.cls) ∧ fz_M (.code y b n ret) ∧ (y.cls ≠ "java/lang/invoke/MethodHandle" ∧ y.cls ≠ "java/lang/invoke/VarHandle" ∧ (parseMethodDescriptor y.desc).map (fun d => d.parameters.length) = some np)
def fz_LV (own : String) (idx : Nat) (y : MethodName) (b : ByteArray) (n : Nat) (ret : Option FieldType) (np : Nat) : Prop := fz_LB y b n ret np ∧ fz_M (.methodLink own idx y) ∧ fz_M (.instanceMethod y) ∧ fz_M (.selects y.cls y y)
def fz_LS (own : String) (idx : Nat) (y : MethodName) (b : ByteArray) (n : Nat) (ret : Option FieldType) (np : Nat) : Prop := fz_LB y b n ret np ∧ fz_M (.methodLink own idx y) ∧ fz_M (.static y)
def fz_LN (own : String) (idx : Nat) (y : MethodName) (b : ByteArray) (n : Nat) (ret : Option FieldType) (np : Nat) : Prop := fz_LB y b n ret np ∧ (∃ host : String, fz_M (.methodLinkNest own idx y host)) ∧ fz_M (.static y)
theorem fz_codeW {g : GG} {s : State} (hE : fz_E g s) {y : MethodName} {b : ByteArray} {n : Nat} {ret : Option FieldType} (h : fz_M (.code y b n ret)) : ∀ w ∈ ([.code y b n ret] : List Cond), ∀ (a' : Array Value) (U : State), s.WarmedH U.vm → w.before a' U = true := by
  intro w hw a' U hW
  rw [List.mem_singleton.mp hw]
  exact fz_warm h.2 hW (hE.use h #[])
section FZ
variable {p : Program} {l : Launch} {e : Env} {R : Room} {s : State} {m : MethodId} {args : Array Value} {below : List Frame} {meth : Method} {c : Code} {H : Heap} {locs : List Loc} {cells slots : Nat} {Q : State → Prop}
variable {own : String} {cc : ByteArray} {n : Nat} {ret : Option FieldType} {g : GG} {A : Nat → Prop} {ws : va_W} {pc : Nat} {ls : Array Slot} {rest : List Value} {a : Nat}
theorem fz_callB (X : fz_X p s m meth c own cc n ret g A) {y : MethodName} {b : ByteArray} {n' np rf rc rs rl idx : Nat} {ret' : Option FieldType} (hL : fz_LB y b n' ret' np) (hl : fz_M (.methodLink own idx y)) (hR : rf + 1 ≤ R.frames ∧ 8 + (n' + 11) + rl ≤ R.locals) :
    CallB R s args own idx y b n' ret' [.code y b n' ret'] (fz_R rf rc rs rl) rc rs np := by
  obtain ⟨-, -, -, -, -, -, hE, -⟩ := X
  refine ⟨rfl, rfl, hR.1, hR.2, fz_codeW hE hL.2.1, List.mem_cons_self, hE.use hL.2.1 _, hE.use hL.1 _, ⟨hL.2.2.1, hL.2.2.2.1⟩, fun sig h => ?_, hE.use hl _⟩
  have h2 := hL.2.2.2.2
  rw [h] at h2
  exact (Option.some.inj h2).symm
theorem fz_callN (X : fz_X p s m meth c own cc n ret g A) {y : MethodName} {b : ByteArray} {n' np rf rc rs rl idx : Nat} {ret' : Option FieldType} {host : String} (hL : fz_LB y b n' ret' np) (hl : fz_M (.methodLinkNest own idx y host)) (hR : rf + 1 ≤ R.frames ∧ 8 + (n' + 11) + rl ≤ R.locals) :
    va_CN R s args own idx y host b n' ret' [.code y b n' ret'] (fz_R rf rc rs rl) rc rs np := by
  obtain ⟨-, -, -, -, -, -, hE, -⟩ := X
  refine ⟨⟨rfl, rfl, hR.1, hR.2, fz_codeW hE hL.2.1, List.mem_cons_self⟩, hE.use hL.2.1 _, hE.use hL.1 _, ⟨hL.2.2.1, hL.2.2.2.1⟩, fun sig h => ?_, hE.use hl _⟩
  have h2 := hL.2.2.2.2
  rw [h] at h2
  exact (Option.some.inj h2).symm
theorem fz_pre (X : fz_X p s m meth c own cc n ret g A) (hW : fz_W g A s ws H locs) (as : List Value) : ∀ U : State, U.heap = H → s.WarmedH U.vm → fz_P g as ws H.size as.toArray U := by
  obtain ⟨-, -, -, -, -, -, hE, -⟩ := X
  intro U hU hw
  exact ⟨rfl, by rw [hU], by rw [hU]; exact hW.1, fz_E.warm hw hE, hW.2.1.weaken (fun _ _ _ _ => trivial)⟩
theorem fz_freeA (hA : ∀ q : Nat, s.heap.size ≤ q → A q) (hW : fz_W g A s ws H locs) : ∀ q, va_A ws H.size q → A q := by
  intro q h
  rcases h with ⟨k, e, h⟩ | h
  · exact hW.2.1.2 k (q, e) h
  · exact hA q (Nat.le_trans hW.2.2.1 h)
/-- behind a call: the callee's world is the caller's -/
theorem fz_back (X : fz_X p s m meth c own cc n ret g A) (hW : fz_W g A s ws H locs) {ws1 : va_W} {v : Option Value} {st0 : List Value} {av : Array Value} (hr : va_Run p l e R s m args below meth c H locs cells slots 0 0 (F0 m pc ls st0) rest (fz_Q g ws1 v (va_A ws H.size) av) (va_A ws H.size))
    (kk : ∀ (H1 : Heap) (locs1 : List Loc), fz_W g A s ws1 H1 locs1 → W p l e R s m args below meth c H1 locs1 cells slots Q (F0 m (pc + 3) ls (v.toList ++ rest))) : W p l e R s m args below meth c H locs cells slots Q (F0 m pc ls st0) := by
  obtain ⟨-, -, -, -, -, -, hE, hA⟩ := X
  have hF := fz_freeA hA hW
  intro T hT Y
  obtain ⟨v', st₀, t, T', L, h0, X', hL, e1, e2, ⟨⟨hv, hP, hD⟩, hz, hk⟩, st⟩ := hr T hT Y
  cases hv
  rw [h0] at hz hk
  obtain ⟨t2, a1, b1⟩ := kk T'.heap (locs ++ L) ⟨by rw [e1]; exact hP, hD.weaken (fun k q _ h => hF q.1 h), Nat.le_trans hW.2.2.1 (by rw [e1]; exact hz), fun q h1 h2 => by rw [e1, hk q (Nat.lt_of_lt_of_le h1 hW.2.2.1) (fun z => h2 (hF q z))]; exact hW.2.2.2.1 q h1 h2, fun q hq => by
      rcases List.mem_append.mp hq with h | h
      · exact hW.2.2.2.2 q h
      · exact hF _ (hL q h)⟩ T' rfl X'
  exact ⟨t2, st t2 a1, b1⟩
theorem fz_cV (X : fz_X p s m meth c own cc n ret g A) (hW : fz_W g A s ws H locs) {y : MethodName} {b : ByteArray} {n' np rf rl idx o ci q0 : Nat} {ret' : Option FieldType} {As : List Value} {ws1 : va_W} {v : Option Value} {fs : List Value} {C : vw_C} {lv : List (Nat × Value)} {st0 : List Value}
    (hM : fz_C l g y b n' ret' rf rl (.ref o :: As) ws ws1 v) (hL : fz_LV own idx y b n' ret' np) (hc : classes[ci]? = some C) (hC : C.1 = y.cls) (he : ws[q0]? = some (o, .inr (ci, fs))) (hn : As.length = np) (hR : rf + 1 ≤ R.frames ∧ 8 + (n' + 11) + rl ≤ R.locals) (hl : lv_has ls n lv) (hst : st0 = As.reverse ++ .ref o :: rest) (hrm : (rest.map fun v => v.category).sum ≤ 8) (hdg : decode cc pc = .ok (.invokevirtual idx, 3))
    (kk : ∀ (H1 : Heap) (locs1 : List Loc), fz_W g A s ws1 H1 locs1 → W p l e R s m args below meth c H1 locs1 cells slots Q (F0 m (pc + 3) ls (v.toList ++ rest))) (hcs : cells ≤ R.cells ∧ slots ≤ R.slots) : W p l e R s m args below meth c H locs cells slots Q (F0 m pc ls st0) := by
  have hE := X.2.2.2.2.2.2.1
  refine fz_back X hW (va_runV (y := y) (C := y.cls) (n := np) (Ts := []) ⟨X.1, X.2.1, X.2.2.2.1, X.2.2.2.2.1, fun _ h => absurd h List.not_mem_nil⟩ (hM H.size) ⟨fz_callB X hL.1 hL.2.1 hR, hE.use hL.2.2.1 _, hE.use hL.2.2.2 _⟩ ⟨fz_P.blind, hC ▸ va_recv hE.1 hW.1 hc he, fz_pre X hW _⟩ rfl hn hl.1 hst (lv_room hrm) hdg ⟨hcs.1, hcs.2⟩) kk
theorem fz_cS (X : fz_X p s m meth c own cc n ret g A) (hW : fz_W g A s ws H locs) {y : MethodName} {b : ByteArray} {n' np rf rl idx : Nat} {ret' : Option FieldType} {As : List Value} {ws1 : va_W} {v : Option Value} {lv : List (Nat × Value)} {st0 : List Value}
    (hM : fz_C l g y b n' ret' rf rl As ws ws1 v) (hL : fz_LS own idx y b n' ret' np) (hn : As.length = np) (hR : rf + 1 ≤ R.frames ∧ 8 + (n' + 11) + rl ≤ R.locals) (hl : lv_has ls n lv) (hst : st0 = As.reverse ++ rest) (hrm : (rest.map fun v => v.category).sum ≤ 8) (hdg : decode cc pc = .ok (.invokestatic idx, 3))
    (kk : ∀ (H1 : Heap) (locs1 : List Loc), fz_W g A s ws1 H1 locs1 → W p l e R s m args below meth c H1 locs1 cells slots Q (F0 m (pc + 3) ls (v.toList ++ rest))) (hcs : cells ≤ R.cells ∧ slots ≤ R.slots) : W p l e R s m args below meth c H locs cells slots Q (F0 m pc ls st0) := by
  have hE := X.2.2.2.2.2.2.1
  refine fz_back X hW (va_runS (y := y) (n := np) (Ts := []) ⟨X.1, X.2.1, X.2.2.2.1, X.2.2.2.2.1, fun _ h => absurd h List.not_mem_nil⟩ (hM H.size) ⟨fz_callB X hL.1 hL.2.1 hR, hE.use hL.2.2 _⟩ ⟨fz_P.blind, fz_pre X hW _⟩ rfl hn hl.1 hst (lv_room hrm) hdg ⟨hcs.1, hcs.2⟩) kk
theorem fz_cN (X : fz_X p s m meth c own cc n ret g A) (hW : fz_W g A s ws H locs) {y : MethodName} {b : ByteArray} {n' np rf rl idx : Nat} {ret' : Option FieldType} {As : List Value} {ws1 : va_W} {v : Option Value} {lv : List (Nat × Value)} {st0 : List Value}
    (hM : fz_C l g y b n' ret' rf rl As ws ws1 v) (hL : fz_LN own idx y b n' ret' np) (hn : As.length = np) (hR : rf + 1 ≤ R.frames ∧ 8 + (n' + 11) + rl ≤ R.locals) (hl : lv_has ls n lv) (hst : st0 = As.reverse ++ rest) (hrm : (rest.map fun v => v.category).sum ≤ 8) (hdg : decode cc pc = .ok (.invokestatic idx, 3))
    (kk : ∀ (H1 : Heap) (locs1 : List Loc), fz_W g A s ws1 H1 locs1 → W p l e R s m args below meth c H1 locs1 cells slots Q (F0 m (pc + 3) ls (v.toList ++ rest))) (hcs : cells ≤ R.cells ∧ slots ≤ R.slots) : W p l e R s m args below meth c H locs cells slots Q (F0 m pc ls st0) := by
  have hE := X.2.2.2.2.2.2.1
  obtain ⟨hB, ⟨host, hl1⟩, hst1⟩ := hL
  refine fz_back X hW (va_runSN (y := y) (n := np) (Ts := []) ⟨X.1, X.2.1, X.2.2.2.1, X.2.2.2.2.1, fun _ h => absurd h List.not_mem_nil⟩ (hM H.size) ⟨fz_callN X hB hl1 hR, hE.use hst1 _, trivial⟩ ⟨fz_P.blind, fz_pre X hW _⟩ rfl hn hl.1 hst (lv_room hrm) hdg ⟨hcs.1, hcs.2⟩) kk
/-- fields -/
theorem fz_gf (X : fz_X p s m meth c own cc n ret g A) (hW : fz_W g A s ws H locs) {C : String} {T : u_T} {N ci index : Nat} (hin : ∀ w ∈ u_ws C T N, fz_M w) (hc : classes[ci]? = some (C, T, N)) (k : Nat) (hk : k < N) (hlink : fz_M (.fieldLink own index C (T k).2.1 (T k).2.2.1)) (hT : (T k).1 = C) (q0 : Nat) {fs : List Value} (he : ws[q0]? = some (a, .inr (ci, fs))) {v : Value} (hv : fs[k]? = some v) (hdg : decode cc pc = .ok (.getfield index, 3))
    (kk : W p l e R s m args below meth c H locs cells slots Q (F0 m (pc + 3) ls (v :: rest))) : W p l e R s m args below meth c H locs cells slots Q (F0 m pc ls (.ref a :: rest)) :=
  va_get (D := g.1) (Ts := u_ws C T N) X.1 X.2.1 (fun w hw => X.2.2.2.2.2.2.1.use (hin w hw) args) (fun _ h => h) X.2.2.2.2.1 X.2.2.2.2.2.2.1.1 hW.1 q0 he hc k hk (X.2.2.2.2.2.2.1.use hlink args) (fun _ h9 => by rw [hT] at h9; exact h9) hv hdg kk
theorem fz_gn (X : fz_X p s m meth c own cc n ret g A) (hW : fz_W g A s ws H locs) {C host : String} {T : u_T} {N ci index : Nat} (hin : ∀ w ∈ u_ws C T N, fz_M w) (hc : classes[ci]? = some (C, T, N)) (k : Nat) (hk : k < N) (hlink : fz_M (.fieldLinkNest own index C (T k).2.1 (T k).2.2.1 host)) (hT : (T k).1 = C) (q0 : Nat) {fs : List Value} (he : ws[q0]? = some (a, .inr (ci, fs))) {v : Value} (hv : fs[k]? = some v) (hdg : decode cc pc = .ok (.getfield index, 3))
    (kk : W p l e R s m args below meth c H locs cells slots Q (F0 m (pc + 3) ls (v :: rest))) : W p l e R s m args below meth c H locs cells slots Q (F0 m pc ls (.ref a :: rest)) :=
  va_getN (D := g.1) (Ts := u_ws C T N) X.1 X.2.1 (fun w hw => X.2.2.2.2.2.2.1.use (hin w hw) args) (fun _ h => h) X.2.2.2.2.1 X.2.2.2.2.2.2.1.1 hW.1 q0 he hc k hk (X.2.2.2.2.2.2.1.use hlink args) (fun _ h9 => by rw [hT] at h9; exact h9) hv hdg kk
theorem fz_pf (X : fz_X p s m meth c own cc n ret g A) (hW : fz_W g A s ws H locs) {C : String} {T : u_T} {N ci index : Nat} (hin : ∀ w ∈ u_ws C T N, fz_M w) (hc : classes[ci]? = some (C, T, N)) (ty0 : Nat → FieldType) (hty : ∀ k, k < N → parseFieldDescriptor (T k).2.2.1 = some (ty0 k)) (hnm : ∀ a, a < N → ∀ b, b < N → a ≠ b → (T a).2.1 ≠ (T b).2.1) (k : Nat) (hk : k < N) (hlink : fz_M (.fieldLink own index C (T k).2.1 (T k).2.2.1)) (hT : (T k).1 = C) (hfin : (T k).2.2.2 = false) {v : Value} (hnr : narrow (ty0 k) v = v) (hfit : fits (ty0 k) v = true) (q0 : Nat) {fs : List Value} (he : ws[q0]? = some (a, .inr (ci, fs))) (hl : k < fs.length) (hdg : decode cc pc = .ok (.putfield index, 3))
    (kk : ∀ (H1 : Heap) (locs1 : List Loc), fz_W g A s (ws.set q0 (a, .inr (ci, fs.set k v))) H1 locs1 → W p l e R s m args below meth c H1 locs1 cells slots Q (F0 m (pc + 3) ls rest)) : W p l e R s m args below meth c H locs cells slots Q (F0 m pc ls (v :: .ref a :: rest)) :=
  va_put (D := g.1) (Ts := u_ws C T N) X.1 X.2.1 (fun w hw => X.2.2.2.2.2.2.1.use (hin w hw) args) (fun _ h => h) ty0 hty hnm X.2.2.2.2.1 X.2.2.2.2.2.2.1.1 hW.1 hW.2.1 hW.2.2 q0 he hc k hk (X.2.2.2.2.2.2.1.use hlink args) (fun _ h9 => by rw [hT] at h9; exact h9) hfin (hty k hk) hnr hfit hl hdg (fun H1 locs1 h1 h2 h3 => kk H1 locs1 ⟨h1, h2, h3⟩)
/-- rows of ints -/
theorem fz_il (X : fz_X p s m meth c own cc n ret g A) (hW : fz_W g A s ws H locs) (q0 t : Nat) {N : Nat} {f : Nat → Int32} (ha : ws[q0]? = some (a, .inl (g.2 0, N, .inl f))) {i : Int32} (hi : i = nI t) (ht : t < N) (hN : N < 2 ^ 31) (hdg : decode cc pc = .ok (.iaload, 1))
    (kk : W p l e R s m args below meth c H locs cells slots Q (F0 m (pc + 1) ls (.int (f t) :: rest))) : W p l e R s m args below meth c H locs cells slots Q (F0 m pc ls (.int i :: .ref a :: rest)) := by
  subst hi
  refine va_iald X.1 X.2.1 X.2.2.2.2.2.2.1.1 hW.1 q0 0 ha rfl (vp_in_nI ht hN) hdg ?_
  rw [nI_clamp (Nat.lt_trans ht hN)]
  exact kk
theorem fz_is (X : fz_X p s m meth c own cc n ret g A) (hW : fz_W g A s ws H locs) (q0 t : Nat) {N : Nat} {f : Nat → Int32} (ha : ws[q0]? = some (a, .inl (g.2 0, N, .inl f))) {i x : Int32} (hi : i = nI t) (ht : t < N) (hN : N < 2 ^ 31) (hdg : decode cc pc = .ok (.iastore, 1))
    (kk : ∀ (H1 : Heap) (locs1 : List Loc), fz_W g A s (ws.set q0 (a, .inl (g.2 0, N, .inl (upd f t x)))) H1 locs1 → W p l e R s m args below meth c H1 locs1 cells slots Q (F0 m (pc + 1) ls rest)) : W p l e R s m args below meth c H locs cells slots Q (F0 m pc ls (.int x :: .int i :: .ref a :: rest)) := by
  subst hi
  refine va_iast X.1 X.2.1 X.2.2.2.2.2.2.1.1 hW.1 hW.2.1 hW.2.2 q0 0 ha rfl (vp_in_nI ht hN) hdg (fun H1 locs1 h1 h2 h3 => ?_)
  rw [nI_clamp (Nat.lt_trans ht hN)] at h1 h2
  exact kk H1 locs1 ⟨h1, h2, h3⟩
theorem fz_ql (X : fz_X p s m meth c own cc n ret g A) (hW : fz_W g A s ws H locs) (q0 t : Nat) {N : Nat} {f : Nat → Option Nat} {o : Nat} (ha : ws[q0]? = some (a, .inl (g.2 3, N, .inr (.inr (.inr (.inr f)))))) {i : Int32} (hi : i = nI t) (ht : t < N) (hN : N < 2 ^ 31) (ho : f t = some o) (hdg : decode cc pc = .ok (.aaload, 1))
    (kk : W p l e R s m args below meth c H locs cells slots Q (F0 m (pc + 1) ls (.ref o :: rest))) : W p l e R s m args below meth c H locs cells slots Q (F0 m pc ls (.int i :: .ref a :: rest)) := by
  subst hi
  refine va_aldq X.1 X.2.1 X.2.2.2.2.2.2.1.1 hW.1 q0 3 ha rfl (vp_in_nI ht hN) hdg ?_
  rw [nI_clamp (Nat.lt_trans ht hN), ho]
  exact kk
theorem fz_al (X : fz_X p s m meth c own cc n ret g A) (hW : fz_W g A s ws H locs) (q0 t0 : Nat) {cA : ClassId} {ty : FieldType} {x : vp_A} (ha : ws[q0]? = some (a, .inl (cA, x))) (ht : (fz_tys g)[t0]? = some (cA, ty)) {v : Int32} (hv : Int32.ofNat x.1 = v) (hdg : decode cc pc = .ok (.arraylength, 1))
    (kk : W p l e R s m args below meth c H locs cells slots Q (F0 m (pc + 1) ls (.int v :: rest))) : W p l e R s m args below meth c H locs cells slots Q (F0 m pc ls (.ref a :: rest)) :=
  va_alen X.1 X.2.1 X.2.2.2.2.2.2.1.1 hW.1 q0 t0 ha ht hv hdg kk
/-- ends -/
theorem fz_ri (X : fz_X p s m meth c own cc n (some .int) g A) (hW : fz_W g A s ws H locs) {v v' : Int32} (hv : v' = v) (hdg : decode cc pc = .ok (.ireturn, 1)) : W p l e R s m args below meth c H locs cells slots (MQ below (fz_Q g ws (some (.int v)) A) args s cells slots A) (F0 m pc ls [.int v']) := by
  subst hv
  exact W.iret X.1 X.2.1 X.2.2.1 (fun t ht _ => ⟨⟨rfl, by rw [ht]; exact hW.1, hW.2.1⟩, hW.2.2.F ht⟩) hW.2.2.2.2 hdg X.2.2.2.2.2.1
theorem fz_rz (X : fz_X p s m meth c own cc n (some .boolean) g A) (hW : fz_W g A s ws H locs) {v v' : Int32} (hv : v' = v) (hn : narrow .boolean (.int v) = .int v) (hdg : decode cc pc = .ok (.ireturn, 1)) : W p l e R s m args below meth c H locs cells slots (MQ below (fz_Q g ws (some (.int v)) A) args s cells slots A) (F0 m pc ls [.int v']) := by
  subst hv
  exact W.zret X.1 X.2.1 X.2.2.1 hn (fun t ht _ => ⟨⟨rfl, by rw [ht]; exact hW.1, hW.2.1⟩, hW.2.2.F ht⟩) hW.2.2.2.2 hdg X.2.2.2.2.2.1
theorem fz_rl (X : fz_X p s m meth c own cc n (some .long) g A) (hW : fz_W g A s ws H locs) {v v' : Int64} (hv : v' = v) (hdg : decode cc pc = .ok (.lreturn, 1)) : W p l e R s m args below meth c H locs cells slots (MQ below (fz_Q g ws (some (.long v)) A) args s cells slots A) (F0 m pc ls [.long v']) := by
  subst hv
  exact W.lret X.1 X.2.1 X.2.2.1 (fun t ht _ => ⟨⟨rfl, by rw [ht]; exact hW.1, hW.2.1⟩, hW.2.2.F ht⟩) hW.2.2.2.2 hdg X.2.2.2.2.2.1
theorem fz_rv (X : fz_X p s m meth c own cc n none g A) (hW : fz_W g A s ws H locs) (hdg : decode cc pc = .ok (.return_, 1)) : W p l e R s m args below meth c H locs cells slots (MQ below (fz_Q g ws none A) args s cells slots A) (F0 m pc ls []) :=
  W.vret X.1 X.2.1 X.2.2.1 (fun t ht _ => ⟨⟨rfl, by rw [ht]; exact hW.1, hW.2.1⟩, hW.2.2.F ht⟩) hW.2.2.2.2 hdg X.2.2.2.2.2.1
theorem fz_cast {ws ws' : va_W} (h : ws = ws') (hW : fz_W g A s ws H locs) : fz_W g A s ws' H locs := h ▸ hW
end FZ
