/-! the law's own: rows of longs; methods that catch; their calls -/
section FJ
variable {p : Program} {l : Launch} {e : Env} {R : Room} {s : State} {m : MethodId} {args : Array Value} {below : List Frame} {meth : Method} {c : Code} {H : Heap} {locs : List Loc} {cells slots : Nat} {Q : State → Prop}
variable {own : String} {cc : ByteArray} {n : Nat} {ret : Option FieldType} {g : GG} {A : Nat → Prop} {ws : va_W} {pc : Nat} {ls : Array Slot} {rest : List Value} {a : Nat}
theorem fz_jl (X : fz_X p s m meth c own cc n ret g A) (hW : fz_W g A s ws H locs) (q0 t : Nat) {N : Nat} {f : Nat → Int64} (ha : ws[q0]? = some (a, .inl (g.2 2, N, .inr (.inl f)))) {i : Int32} (hi : i = nI t) (ht : t < N) (hN : N < 2 ^ 31) (hdg : decode cc pc = .ok (.laload, 1))
    (kk : W p l e R s m args below meth c H locs cells slots Q (F0 m (pc + 1) ls (.long (f t) :: rest))) : W p l e R s m args below meth c H locs cells slots Q (F0 m pc ls (.int i :: .ref a :: rest)) := by
  subst hi
  refine va_lald X.1 X.2.1 X.2.2.2.2.2.2.1.1 hW.1 q0 2 ha rfl (vp_in_nI ht hN) hdg ?_
  rw [nI_clamp (Nat.lt_trans ht hN)]
  exact kk
theorem fz_js (X : fz_X p s m meth c own cc n ret g A) (hW : fz_W g A s ws H locs) (q0 t : Nat) {N : Nat} {f : Nat → Int64} (ha : ws[q0]? = some (a, .inl (g.2 2, N, .inr (.inl f)))) {i : Int32} {x : Int64} (hi : i = nI t) (ht : t < N) (hN : N < 2 ^ 31) (hdg : decode cc pc = .ok (.lastore, 1))
    (kk : ∀ (H1 : Heap) (locs1 : List Loc), fz_W g A s (ws.set q0 (a, .inl (g.2 2, N, .inr (.inl (vp_updL f t x))))) H1 locs1 → W p l e R s m args below meth c H1 locs1 cells slots Q (F0 m (pc + 1) ls rest)) : W p l e R s m args below meth c H locs cells slots Q (F0 m pc ls (.long x :: .int i :: .ref a :: rest)) := by
  subst hi
  refine va_last X.1 X.2.1 X.2.2.2.2.2.2.1.1 hW.1 hW.2.1 hW.2.2 q0 2 ha rfl (vp_in_nI ht hN) hdg (fun H1 locs1 h1 h2 h3 => ?_)
  rw [nI_clamp (Nat.lt_trans ht hN)] at h1 h2
  exact kk H1 locs1 ⟨h1, h2, h3⟩
theorem fz_rw {v v' : Int32} {rc rs : Nat} (X : fz_X p s m meth c own cc n (some .int) g A) (hW : fz_W g A s ws H locs) (hv : v' = v) (hc : cells ≤ rc ∧ slots ≤ rs) (hdg : decode cc pc = .ok (.ireturn, 1)) : W p l e R s m args below meth c H locs cells slots (MQ below (fz_Q g ws (some (.int v)) A) args s rc rs A) (F0 m pc ls [.int v']) := by
  subst hv
  exact W.widen hc.1 hc.2 (W.iret X.1 X.2.1 X.2.2.1 (fun t ht _ => ⟨⟨rfl, by rw [ht]; exact hW.1, hW.2.1⟩, hW.2.2.F ht⟩) hW.2.2.2.2 hdg X.2.2.2.2.2.1)
/-- a call of a method that may throw, by one that catches -/
theorem fz_cVX (X : fz_X p s m meth c own cc n ret g A) (Y : fz_Y s A) (hW : fz_W g A s ws H locs) {y : MethodName} {b : ByteArray} {n' np rf rc' rs' rl idx o ci q0 : Nat} {As : List Value} {ws1 : va_W} {v : Int32} {ex' : Option String} {fs : List Value} {C : vw_C} {lv : List (Nat × Value)} {st0 : List Value}
    (hM : fz_CX l g y b n' (some .int) rf rc' rs' rl (.ref o :: As) ws ws1 (some (.int v)) ex') (hL : fz_LV own idx y b n' (some .int) np) (hc : classes[ci]? = some C) (hC : C.1 = y.cls) (he : ws[q0]? = some (o, .inr (ci, fs))) (hn : As.length = np) (hR : rf + 1 ≤ R.frames ∧ 8 + (n' + 11) + rl ≤ R.locals) (hl : lv_has ls n lv) (hst : st0 = As.reverse ++ .ref o :: rest) (hrm : (rest.map fun v => v.category).sum ≤ 8) (hdg : decode cc pc = .ok (.invokevirtual idx, 3)) (hcs : cells + rc' ≤ R.cells ∧ slots + rs' ≤ R.slots)
    (kx : ∀ (E : String) (q : Addr) (ce : Cell) (H1 : Heap) (locs1 : List Loc), ex' = some E → fz_W g A s ws H1 locs1 → H1[q]? = some ce → ce.vm = .none → s.vm.findClass E = some ce.cls → vx_W p l e R s m args below meth c H1 locs1 (cells + rc') (slots + rs') Q (F0 m pc ls rest) q)
    (kk : ∀ (H1 : Heap) (locs1 : List Loc), ex' = none → fz_W g A s ws1 H1 locs1 → W p l e R s m args below meth c H1 locs1 (cells + rc') (slots + rs') Q (F0 m (pc + 3) ls (.int v :: rest))) : W p l e R s m args below meth c H locs cells slots Q (F0 m pc ls st0) := by
  have hE := X.2.2.2.2.2.2.1
  exact fz_xback X hW (vx_runV (y := y) (C := y.cls) (n := np) (Ts := []) ⟨X.1, X.2.1, X.2.2.2.1, X.2.2.2.2.1, fun _ h => absurd h List.not_mem_nil⟩ (hM H.size) ⟨fz_callB X hL.1 hL.2.1 hR, hE.use hL.2.2.1 _, hE.use hL.2.2.2 _⟩ ⟨fz_PX.blind, hC ▸ va_recv hE.1 hW.1 hc he, fz_preX X Y hW _⟩ rfl hn hl.1 hst (lv_room hrm) hdg hcs) kx kk
/-- behind a call that makes cells -/
theorem fz_backM (X : fz_X p s m meth c own cc n ret g A) (hW : fz_W g A s ws H locs) {ws1 : va_W} {v : Option Value} {mc ms : Nat} {st0 : List Value} {av : Array Value} (hr : va_Run p l e R s m args below meth c H locs cells slots mc ms (F0 m pc ls st0) rest (fz_Q g ws1 v (va_A ws H.size) av) (va_A ws H.size))
    (kk : ∀ (H1 : Heap) (locs1 : List Loc), fz_W g A s ws1 H1 locs1 → W p l e R s m args below meth c H1 locs1 (cells + mc) (slots + ms) Q (F0 m (pc + 3) ls (v.toList ++ rest))) : W p l e R s m args below meth c H locs cells slots Q (F0 m pc ls st0) := by
  obtain ⟨-, -, -, -, -, -, hE, hA⟩ := X
  have hF := fz_freeA hA hW
  intro T hT Y
  obtain ⟨v', st₀, t, T', L, h0, X', hL, e1, e2, ⟨⟨hv, hP, hD⟩, hz, hk⟩, st⟩ := hr T hT Y
  cases hv
  rw [h0] at hz hk
  obtain ⟨t2, a1, b1⟩ := kk T'.heap (locs ++ L) ⟨by rw [e1]; exact hP, hD.weaken (fun k q _ h => hF q.1 h), Nat.le_trans hW.2.2.1 (by rw [e1]; exact hz), fun q h1 h2 => by rw [e1, hk q (Nat.lt_of_lt_of_le h1 hW.2.2.1) (fun z => h2 (hF q z))]; exact hW.2.2.2.1 q h1 h2, fun q hq => by
      rcases List.mem_append.mp hq with h | h
      · exact hW.2.2.2.2 q h
      · exact hF _ (hL q h)⟩ T' rfl X'
  exact ⟨t2, st t2 a1, b1⟩
end FJ
def fz_PL (g : GG) (as : List Value) (W0 : va_W) (sz : Nat) : Array Value → State → Prop := va_Pc as (fun U => U.heap.size = sz ∧ va_P g.1 classes W0 U.heap ∧ fz_E g U ∧ va_D (fun _ => True) W0 ∧ fz_Z (va_A W0 sz) U U.heap ∧ fz_T U ∧ va_Nc XIA XIO U)
theorem fz_PL.blind {g : GG} {as : List Value} {W0 : va_W} {sz : Nat} : FrameBlind (fz_PL g as W0 sz) := fun a U f mk q => by
  obtain ⟨q0, q1, qP, qE, qD, qZ, qT, qN⟩ := q
  exact ⟨q0, q1, qP, fz_E.call qE, qD, fz_Z.call qZ, fz_T.call qT, va_Nc.moved (u := U) (U := U.calling f mk a) (Vm.Alike.refl U.vm) qN⟩
/-- a contract of a method that catches: it answers v, the world becomes W1 -/
def fz_CH (l : Launch) (g : GG) (y : MethodName) (b : ByteArray) (n : Nat) (hh : List (Nat × Nat × Nat × Nat)) (rf rc rs rl : Nat) (as : List Value) (W0 W1 : va_W) (v : Int32) : Prop :=
  ∀ sz : Nat, Met l y [.codeWith y b n (some .int) hh] (fz_R rf rc rs rl) (fz_PL g as W0 sz) (fz_Q g W1 (some (.int v)) (va_A W0 sz)) rc rs (va_A W0 sz)
theorem fz_CH.of {l : Launch} {g : GG} {y : MethodName} {b : ByteArray} {n : Nat} {hh : List (Nat × Nat × Nat × Nat)} {rf rc rs rl : Nat} {as : List Value} {W0 W1 : va_W} {v : Int32} (hy : plainName y.cls = true) (hn : (lg_sl as).length ≤ n)
    (body : ∀ (p : Program) (e : Env) (s : State) (m : MethodId) (args : Array Value) (below : List Frame) (meth : Method) (c : Code) (A : Nat → Prop) (ls : Array Slot), fz_X p s m meth c y.cls b n (some .int) g A → fz_Y s A → va_Nc XIA XIO s → c.exceptionTable.toList = tableOf hh → fz_W g A s W0 s.heap [] → lv_has ls n (lv_args 0 as) →
      W p l e (fz_R rf rc rs rl) s m args below meth c s.heap [] 0 0 (MQ below (fz_Q g W1 (some (.int v)) A) args s rc rs A) (F0 m 0 ls [])) : fz_CH l g y b n hh rf rc rs rl as W0 W1 v := by
  intro sz
  refine va_MetW (cc := b) (maxL := n) (ret := some .int) (hh := hh) hy rfl ?_
  intro p e s m args below meth c s₁ B hml hv
  have ht := vx_table (x := y) B (atoms_spec (ws := [.codeWith y b n (some .int) hh]) B.pre _ List.mem_cons_self)
  obtain ⟨rfl, hsz, hP, hE, hD0, hZ, hT, hN⟩ := hv
  subst hsz
  have hD : va_D (va_A W0 s.heap.size) W0 := hD0.self (sz := s.heap.size)
  have hl := lv_entry as (n := n) hn
  rw [lg_entry_eq]
  exact body p e s m as.toArray below meth c _ _ ⟨B.exec, B.bytes, B.returns, hml, findClass_of_methodNamed B.named, B.notSynchronized, hE, fun q h => Or.inr h⟩ ⟨hZ, hT⟩ hN ht ⟨hP, hD, va_S.rf⟩ hl
theorem fz_CH.frame {l : Launch} {g : GG} {y : MethodName} {b : ByteArray} {n : Nat} {hh : List (Nat × Nat × Nat × Nat)} {rf rc rs rl : Nat} {as : List Value} {wc w1 : va_W} {v : Int32} (h : fz_CH l g y b n hh rf rc rs rl as wc w1 v) {ws ws1 : va_W} (isC isR isX : List Nat)
    (hC : isC.map (fun i => ws[i]?) = wc.map some) (hc : va_nd isC = true) (hR : isR.map (fun i => ws[i]?) = (isR.filterMap (fun i => ws[i]?)).map some) (hn : va_nd isR = true) (hdis : ∀ i ∈ isR, i ∉ isC) (hX : isX.map (fun i => (isR.filterMap (fun i => ws[i]?) ++ w1)[i]?) = ws1.map some) (hx : va_nd isX = true) : fz_CH l g y b n hh rf rc rs rl as ws ws1 v := by
  intro sz
  refine fz_cons (h sz) ?_ ?_ (fz_A.sub isC hC)
  · intro a s hp
    obtain ⟨h1, h2, h3, h4, h5, h6, h7, h8⟩ := hp
    exact ⟨h1, h2, fz_P.pick h3 isC hC, h4, h5.sub isC hc hC, ⟨vx_Zq.narrow h6.1 (fz_A.sub isC hC), vx_Zq.narrow h6.2 (fz_A.sub isC hC)⟩, h7, h8⟩
  · intro a s o t hp hq
    obtain ⟨h1, h2, h3, h4, h5, h6, h7, h8⟩ := hp
    obtain ⟨⟨q1, q2, q3⟩, q4, q5⟩ := hq
    subst h2
    have hD5 : va_D (va_A ws s.heap.size) ws := h5.self
    obtain ⟨j1, j2⟩ := va_join (A0 := va_A ws s.heap.size) h3 hD5 isC isR hC hR hn hdis q5 (fz_A.sub isC hC) q2 q3
    exact ⟨⟨q1, fz_P.pick j1 isX hX, j2.sub isX hx hX⟩, q4, fun q hq hA => q5 q hq (fun z => hA (fz_A.sub isC hC q z))⟩
def fz_LH (own : String) (idx : Nat) (y : MethodName) (b : ByteArray) (n : Nat) (hh : List (Nat × Nat × Nat × Nat)) (np : Nat) : Prop := fz_M (.initialized y.cls) ∧ fz_M (.codeWith y b n (some .int) hh) ∧ (y.cls ≠ "java/lang/invoke/MethodHandle" ∧ y.cls ≠ "java/lang/invoke/VarHandle" ∧ (parseMethodDescriptor y.desc).map (fun d => d.parameters.length) = some np) ∧ fz_M (.methodLink own idx y) ∧ fz_M (.static y)
section FK
variable {p : Program} {l : Launch} {e : Env} {R : Room} {s : State} {m : MethodId} {args : Array Value} {below : List Frame} {meth : Method} {c : Code} {H : Heap} {locs : List Loc} {cells slots : Nat} {Q : State → Prop}
variable {own : String} {cc : ByteArray} {n : Nat} {ret : Option FieldType} {g : GG} {A : Nat → Prop} {ws : va_W} {pc : Nat} {ls : Array Slot} {rest : List Value} {a : Nat}
theorem fz_preL (X : fz_X p s m meth c own cc n ret g A) (Y : fz_Y s A) (hN : va_Nc XIA XIO s) (hW : fz_W g A s ws H locs) (as : List Value) : ∀ U : State, U.heap = H → s.WarmedH U.vm → fz_PL g as ws H.size as.toArray U := by
  intro U hU hw
  obtain ⟨q0, q1, q2, q3, q4, q5, q6⟩ := fz_preX X Y hW as U hU hw
  exact ⟨q0, q1, q2, q3, q4, q5, q6, va_Nc.moved hw.alike hN⟩
theorem fz_cH (X : fz_X p s m meth c own cc n ret g A) (Y : fz_Y s A) (hN : va_Nc XIA XIO s) (hW : fz_W g A s ws H locs) {y : MethodName} {b : ByteArray} {n' np rf rc rs rl idx : Nat} {hh : List (Nat × Nat × Nat × Nat)} {As : List Value} {ws1 : va_W} {v : Int32} {lv : List (Nat × Value)} {st0 : List Value}
    (hM : fz_CH l g y b n' hh rf rc rs rl As ws ws1 v) (hL : fz_LH own idx y b n' hh np) (hn : As.length = np) (hR : rf + 1 ≤ R.frames ∧ 8 + (n' + 11) + rl ≤ R.locals) (hl : lv_has ls n lv) (hst : st0 = As.reverse ++ rest) (hrm : (rest.map fun v => v.category).sum ≤ 8) (hdg : decode cc pc = .ok (.invokestatic idx, 3)) (hcs : cells + rc ≤ R.cells ∧ slots + rs ≤ R.slots)
    (kk : ∀ (H1 : Heap) (locs1 : List Loc), fz_W g A s ws1 H1 locs1 → W p l e R s m args below meth c H1 locs1 (cells + rc) (slots + rs) Q (F0 m (pc + 3) ls (.int v :: rest))) : W p l e R s m args below meth c H locs cells slots Q (F0 m pc ls st0) := by
  have hE := X.2.2.2.2.2.2.1
  obtain ⟨L1, L2, L3, L4, L5⟩ := hL
  refine fz_backM X hW (vx_runSW (y := y) (bytes := b) (maxL := n') (ret := some .int) (hh := hh) (n := np) (Ts := []) ⟨X.1, X.2.1, X.2.2.2.1, X.2.2.2.2.1, fun _ h => absurd h List.not_mem_nil⟩ (hM H.size) ⟨⟨rfl, rfl, hR.1, hR.2, fun w hw a' U hU => ?_, List.mem_cons_self⟩, hE.use L2 _, hE.use L1 _, ⟨L3.1, L3.2.1⟩, fun sig h => ?_, hE.use L4 _, hE.use L5 _⟩ ⟨fz_PL.blind, fz_preL X Y hN hW _⟩ rfl hn hl.1 hst (lv_room hrm) hdg hcs) kk
  · rw [List.mem_singleton.mp hw]
    exact fz_warm L2.2 hU (hE.use L2 #[])
  · have h2 := L3.2.2
    rw [h] at h2
    exact (Option.some.inj h2).symm
end FK
abbrev LR (g : GG) (q : Nat) (lf : Nat → Int64) : Nat × va_E := (q, .inl (g.2 2, 1, .inr (.inl lf)))
set_option maxRecDepth 100000 in
theorem fz_CX.lr {l : Launch} {g : GG} {y : MethodName} {b : ByteArray} {n : Nat} {ret : Option FieldType} {rf rc rs rl : Nat} {as : List Value} {f : Nat} {a d : Nat → Nat} {v u v1 u1 : SV} {r : Option Value} {ex : Option String} (h : fz_CX l g y b n ret rf rc rs rl as (FW g f a d v u) (FW g f a d v1 u1) r ex) (q : Nat) (lf : Nat → Int64) : fz_CX l g y b n ret rf rc rs rl as (FW g f a d v u ++ [LR g q lf]) (FW g f a d v1 u1 ++ [LR g q lf]) r ex :=
  fz_CX.frame h [0, 1, 2, 3, 4, 5, 6, 7, 8, 9, 10, 11, 12, 13, 14, 15, 16, 17, 18, 19, 20, 21, 22, 23, 24, 25, 26, 27, 28, 29, 30, 31, 32, 33, 34] [35] [1, 2, 3, 4, 5, 6, 7, 8, 9, 10, 11, 12, 13, 14, 15, 16, 17, 18, 19, 20, 21, 22, 23, 24, 25, 26, 27, 28, 29, 30, 31, 32, 33, 34, 35, 0] rfl rfl rfl rfl (by decide) rfl rfl rfl
theorem xl_io : fz_M (.classLink RL 13 XIO) := ⟨List.mem_of_getElem? (i := 201) (by decide +kernel), by decide +kernel⟩
theorem xl_ia : fz_M (.classLink RL 15 XIA) := ⟨List.mem_of_getElem? (i := 202) (by decide +kernel), by decide +kernel⟩
theorem xs_io : fz_M (.castable XIO XIO) := ⟨List.mem_of_getElem? (i := 215) (by decide +kernel), by decide +kernel⟩
theorem xs_ia : fz_M (.castable XIA XIA) := ⟨List.mem_of_getElem? (i := 283) (by decide +kernel), by decide +kernel⟩
/-- what is thrown where a tile, a block, a budget is asked -/
theorem exT_E {x y : Int32} {E : String} (h : exT x y = some E) : E = XIO := by
  unfold exT at h
  split at h
  · cases h
  · exact (Option.some.inj h).symm
theorem exG_E {x : Int32} {E : String} (h : exG x = some E) : E = XIA := by
  unfold exG at h
  split at h
  · cases h
  · exact (Option.some.inj h).symm
theorem exK_E {k : Nat} {x : Int32} {E : String} (h : exK k x = some E) : E = XIO := by
  unfold exK at h
  split at h
  · cases h
  · exact (Option.some.inj h).symm
theorem exS_E {x : Int32} {E : String} (h : exS x = some E) : E = XIA := by
  unfold exS at h
  split at h
  · cases h
  · exact (Option.some.inj h).symm
theorem exF_E {x y w z q : Int32} {E : String} (h : exF x y w z q = some E) : E = XIO ∨ E = XIA := by
  unfold exF at h
  split at h
  · split at h
    · cases h
    · exact Or.inr (Option.some.inj h).symm
  · exact Or.inl (Option.some.inj h).symm
theorem exM_E {x y w z x2 y2 : Int32} {E : String} (h : exM x y w z x2 y2 = some E) : E = XIO ∨ E = XIA := by
  unfold exM at h
  split at h
  · split at h
    · split at h
      · exact Or.inr (Option.some.inj h).symm
      · cases h
    · exact Or.inl (Option.some.inj h).symm
  · exact Or.inl (Option.some.inj h).symm
