/-! constructors: contracts whose end holds new cells; rows that make cells -/
def fz_QN (g : GG) (K : va_W → Prop) (A : Nat → Prop) : Array Value → State → Outcome → State → Prop := fun _ st oc t => (oc = .returned none ∧ ∃ W1 : va_W, K W1 ∧ va_P g.1 classes W1 t.heap ∧ va_D A W1) ∧ va_F A st t
def fz_CN (l : Launch) (g : GG) (y : MethodName) (b : ByteArray) (n rf rc rs rl : Nat) (as : List Value) (W0 : va_W) (K : va_W → Prop) : Prop :=
  ∀ sz : Nat, Met l y [.code y b n none] (fz_R rf rc rs rl) (fz_P g as W0 sz) (fz_QN g K (va_A W0 sz)) rc rs (va_A W0 sz)
theorem fz_CN.of {l : Launch} {g : GG} {y : MethodName} {b : ByteArray} {n rf rc rs rl : Nat} {as : List Value} {W0 : va_W} {K : va_W → Prop} (hy : plainName y.cls = true) (hn : (lg_sl as).length ≤ n)
    (body : ∀ (p : Program) (e : Env) (s : State) (m : MethodId) (args : Array Value) (below : List Frame) (meth : Method) (c : Code) (A : Nat → Prop) (ls : Array Slot), fz_X p s m meth c y.cls b n none g A → meth.name = y.name → fz_W g A s W0 s.heap [] → lv_has ls n (lv_args 0 as) →
      W p l e (fz_R rf rc rs rl) s m args below meth c s.heap [] 0 0 (MQ below (fz_QN g K A) args s rc rs A) (F0 m 0 ls [])) : fz_CN l g y b n rf rc rs rl as W0 K := by
  intro sz
  refine Met.ofW (cc := b) (maxL := n) (ret := none) hy rfl ?_
  intro p e s m args below meth c s₁ B hml hv
  obtain ⟨rfl, hsz, hP, hE, hD0⟩ := hv
  subst hsz
  have hD : va_D (va_A W0 s.heap.size) W0 := hD0.self (sz := s.heap.size)
  have hl := lv_entry as (n := n) hn
  rw [lg_entry_eq]
  exact body p e s m as.toArray below meth c _ _ ⟨B.exec, B.bytes, B.returns, hml, findClass_of_methodNamed B.named, B.notSynchronized, hE, fun q h => Or.inr h⟩ (name_of_methodNamed B.named B.method).1 ⟨hP, hD, va_S.rf⟩ hl
def fz_LI (own : String) (idx : Nat) (y : MethodName) (b : ByteArray) (n : Nat) : Prop := fz_LB y b n none 0 ∧ fz_M (.methodLink own idx y) ∧ fz_M (.instanceMethod y) ∧ y.name = "<init>"
def fz_LJ (own : String) (idx : Nat) (y : MethodName) (b : ByteArray) (n : Nat) : Prop := fz_LB y b n none 0 ∧ (∃ host : String, fz_M (.methodLinkNest own idx y host)) ∧ fz_M (.instanceMethod y) ∧ y.name = "<init>"
section FN
variable {p : Program} {l : Launch} {e : Env} {R : Room} {s : State} {m : MethodId} {args : Array Value} {below : List Frame} {meth : Method} {c : Code} {H : Heap} {locs : List Loc} {cells slots : Nat} {Q : State → Prop}
variable {own : String} {cc : ByteArray} {n : Nat} {ret : Option FieldType} {g : GG} {A : Nat → Prop} {ws : va_W} {pc : Nat} {ls : Array Slot} {rest : List Value} {a : Nat}
theorem fz_oi (X : fz_X p s m meth c own cc n ret g A) {lv : List (Nat × Value)} (hl : lv_has ls n lv) {idx : Nat} (hlk : fz_M (.methodLink own idx objectInit)) (hi : fz_M (.instanceMethod objectInit)) (hc : fz_M (.code objectInit ⟨#[0xb1]⟩ 1 none)) (hf : 1 ≤ R.frames) (hlo : 2 * (F0 m pc ls (.ref a :: rest)).monitorRoom + (rest.map fun v => v.category).sum + 12 ≤ R.locals) (hdg : decode cc pc = .ok (.invokespecial idx, 3))
    (kk : W p l e R s m args below meth c H locs cells slots Q (F0 m (pc + 3) ls rest)) : W p l e R s m args below meth c H locs cells slots Q (F0 m pc ls (.ref a :: rest)) :=
  W.objInit X.1 X.2.1 X.2.2.2.2.1 (X.2.2.2.2.2.2.1.use hlk args) (X.2.2.2.2.2.2.1.use hi args) (X.2.2.2.2.2.2.1.use hc args) rfl (by rw [X.2.2.2.1]; exact hl.1) rfl hdg hf hlo kk
theorem fz_nw (X : fz_X p s m meth c own cc n ret g A) (hW : fz_W g A s ws H locs) {C : String} {T : u_T} {N ci index : Nat} (hin : ∀ w ∈ u_ws C T N, fz_M w) (hc : classes[ci]? = some (C, T, N)) (ty : Nat → FieldType) (hty : ∀ k, k < N → parseFieldDescriptor (T k).2.2.1 = some (ty k)) (hcl : fz_M (.classLink own index C)) (hinst : fz_M (.instantiable C N)) (hini : fz_M (.initialized C)) {fs : List Value} (hfs : ∀ j, j < N → defaultValue (ty j) = vp_V fs j) (hcells : cells + 1 ≤ R.cells) (hslots : slots + N ≤ R.slots) (hdg : decode cc pc = .ok (.new index, 3))
    (kk : ∀ (q : Nat) (H1 : Heap), fz_W g A s (ws ++ [(q, .inr (ci, fs))]) H1 locs → W p l e R s m args below meth c H1 locs (cells + 1) (slots + N) Q (F0 m (pc + 3) ls (.ref q :: rest))) : W p l e R s m args below meth c H locs cells slots Q (F0 m pc ls rest) :=
  va_new (D := g.1) (Ts := u_ws C T N) X.1 X.2.1 (fun w hw => X.2.2.2.2.2.2.1.use (hin w hw) args) (fun _ h => h) ty hty X.2.2.2.2.1 (X.2.2.2.2.2.2.1.use hcl args) (X.2.2.2.2.2.2.1.use hinst args) (X.2.2.2.2.2.2.1.use hini args) X.2.2.2.2.2.2.1.1 hW.1 hW.2.1 hW.2.2 X.2.2.2.2.2.2.2 hc hfs hcells hslots hdg (fun q H1 h1 h2 h3 => kk q H1 ⟨h1, h2, h3⟩)
theorem fz_ni (X : fz_X p s m meth c own cc n ret g A) (hW : fz_W g A s ws H locs) {atype : ArrayType} {ty : FieldType} (hat : newarray.typeOf atype = ty) (harr : fz_M (.arrayClass (newarray.typeOf atype))) (t0 : Nat) {cT : ClassId} (ht : (fz_tys g)[t0]? = some (cT, ty)) (hra : ∀ (U : State) (cA : ClassId), va_RA U cA ty → U.vm.findClass ("[" ++ ty.toString) = some cA) {k0 : Int32} {N' : Nat} {a0 : vp_A} (ha : ∀ cA : ClassId, vp_cell cA a0 = arrV cA N' (fun _ => defaultValue ty)) (hn : ¬ k0 < 0) (hN : k0.toNatClampNeg = N') (hbytes : N' * componentBytes ty ≤ 536870912) (hcells : cells + 1 ≤ R.cells) (hslots : slots + N' ≤ R.slots) (hdg : decode cc pc = .ok (.newarray atype, 2))
    (kk : ∀ (q : Nat) (H1 : Heap), fz_W g A s (ws ++ [(q, .inl (cT, a0))]) H1 locs → W p l e R s m args below meth c H1 locs (cells + 1) (slots + N') Q (F0 m (pc + 2) ls (.ref q :: rest))) : W p l e R s m args below meth c H locs cells slots Q (F0 m pc ls (.int k0 :: rest)) :=
  va_newa X.1 X.2.1 (X.2.2.2.2.2.2.1.use harr args) hat X.2.2.2.2.2.2.1.1 hW.1 hW.2.1 hW.2.2 X.2.2.2.2.2.2.2 ha hn hN hbytes hcells hslots hdg (fun q cA H1 hK h1 h2 h3 => by
    have e1 := hra _ _ (hK.2 4 (cA, ty) rfl).2
    have e2 := hra _ _ (X.2.2.2.2.2.2.1.1.2 t0 _ ht).2
    have e3 : cA = cT := Option.some.inj (e1.symm.trans e2)
    subst e3
    exact kk q H1 ⟨h1, h2, h3⟩)
theorem fz_nq (X : fz_X p s m meth c own cc n ret g A) (hW : fz_W g A s ws H locs) {C : String} {index : Nat} (hcl : fz_M (.classLink own index C)) (hov : fz_M (.arrayOver (.object C))) (t0 : Nat) {cT : ClassId} (ht : (fz_tys g)[t0]? = some (cT, .object C)) {k0 : Int32} {N' : Nat} (hn : ¬ k0 < 0) (hN : k0.toNatClampNeg = N') (hbytes : N' * 4 ≤ 536870912) (hcells : cells + 1 ≤ R.cells) (hslots : slots + N' ≤ R.slots) (hdg : decode cc pc = .ok (.anewarray index, 3))
    (kk : ∀ (q : Nat) (H1 : Heap), fz_W g A s (ws ++ [(q, .inl (cT, N', .inr (.inr (.inr (.inr (fun _ => none))))))]) H1 locs → W p l e R s m args below meth c H1 locs (cells + 1) (slots + N') Q (F0 m (pc + 3) ls (.ref q :: rest))) : W p l e R s m args below meth c H locs cells slots Q (F0 m pc ls (.int k0 :: rest)) :=
  va_newq X.1 X.2.1 X.2.2.2.2.1 (X.2.2.2.2.2.2.1.use hcl args) (va_AO.of (X.2.2.2.2.2.2.1.use hov args)) X.2.2.2.2.2.2.1.1 hW.1 hW.2.1 hW.2.2 X.2.2.2.2.2.2.2 hn hN hbytes hcells hslots hdg (fun q cA H1 hK h1 h2 h3 => by
    obtain ⟨_, _, -, -, -, e1⟩ := (hK.2 4 (cA, .object C) rfl).2
    obtain ⟨_, _, -, -, -, e2⟩ := (X.2.2.2.2.2.2.1.1.2 t0 _ ht).2
    have e3 : cA = cT := Option.some.inj (e1.symm.trans e2)
    subst e3
    exact kk q H1 ⟨h1, h2, h3⟩)
theorem fz_sq (X : fz_X p s m meth c own cc n ret g A) (hW : fz_W g A s ws H locs) (q0 t qk ci : Nat) {r : vw_C} {v : Nat} {vs : List Value} {N : Nat} {f : Nat → Option Nat} (ha : ws[q0]? = some (a, .inl (g.2 3, N, .inr (.inr (.inr (.inr f)))))) (hr : r.1 = "FarScreen$BlockMove") (hv : ws[qk]? = some (v, .inr (ci, vs))) (hc : classes[ci]? = some r) {i : Int32} (hi : i = nI t) (ht : t < N) (hN : N < 2 ^ 31) (hdg : decode cc pc = .ok (.aastore, 1))
    (kk : ∀ (H1 : Heap) (locs1 : List Loc), fz_W g A s (ws.set q0 (a, .inl (g.2 3, N, .inr (.inr (.inr (.inr (va_up f t (some v)))))))) H1 locs1 → W p l e R s m args below meth c H1 locs1 cells slots Q (F0 m (pc + 1) ls rest)) : W p l e R s m args below meth c H locs cells slots Q (F0 m pc ls (.ref v :: .int i :: .ref a :: rest)) := by
  subst hi
  have ec : (nI t).toNatClampNeg = t := nI_clamp (by omega)
  refine va_astq X.1 X.2.1 X.2.2.2.2.2.2.1.1 hW.1 hW.2.1 hW.2.2 q0 3 qk ci ha (by rw [hr]; rfl) hv hc ?_ hdg (fun H1 locs1 h1 h2 h3 => ?_)
  · unfold vp_in
    rw [ec]
    exact fun z => z.elim (fun z => absurd z (Int32.not_lt.mpr ((nI_leI (a := 0) (b := t) (by omega) (by omega)).mpr (Nat.zero_le _)))) (fun z => absurd z (by omega))
  · rw [ec] at h1 h2
    exact kk H1 locs1 ⟨h1, h2, h3⟩
theorem fz_qf (X : fz_X p s m meth c own cc n ret g A) (hname : meth.name = "<init>") (hW : fz_W g A s ws H locs) {C : String} {T : u_T} {N ci index : Nat} (hin : ∀ w ∈ u_ws C T N, fz_M w) (hc : classes[ci]? = some (C, T, N)) (ty0 : Nat → FieldType) (hty : ∀ k, k < N → parseFieldDescriptor (T k).2.2.1 = some (ty0 k)) (hnm : ∀ a, a < N → ∀ b, b < N → a ≠ b → (T a).2.1 ≠ (T b).2.1) (k : Nat) (hk : k < N) (hlink : fz_M (.fieldLink own index C (T k).2.1 (T k).2.2.1)) (hT : (T k).1 = C) (hO : (T k).1 = own) (hfin : (T k).2.2.2 = true) {v : Value} (hnr : narrow (ty0 k) v = v) (hfit : fits (ty0 k) v = true) (q0 : Nat) {fs : List Value} (he : ws[q0]? = some (a, .inr (ci, fs))) (hl : k < fs.length) (hdg : decode cc pc = .ok (.putfield index, 3))
    (kk : ∀ (H1 : Heap) (locs1 : List Loc), fz_W g A s (ws.set q0 (a, .inr (ci, fs.set k v))) H1 locs1 → W p l e R s m args below meth c H1 locs1 cells slots Q (F0 m (pc + 3) ls rest)) : W p l e R s m args below meth c H locs cells slots Q (F0 m pc ls (v :: .ref a :: rest)) :=
  va_putF (D := g.1) (Ts := u_ws C T N) X.1 X.2.1 (fun w hw => X.2.2.2.2.2.2.1.use (hin w hw) args) (fun _ h => h) ty0 hty hnm X.2.2.2.2.1 X.2.2.2.2.2.2.1.1 hW.1 hW.2.1 hW.2.2 q0 he hc k hk (X.2.2.2.2.2.2.1.use hlink args) (fun _ h9 => by rw [hT] at h9; exact h9) hfin hname hO (hty k hk) hnr hfit hl hdg (fun H1 locs1 h1 h2 h3 => kk H1 locs1 ⟨h1, h2, h3⟩)
theorem fz_backN (X : fz_X p s m meth c own cc n ret g A) (hW : fz_W g A s ws H locs) {wc wr : va_W} {K : va_W → Prop} (isC isR : List Nat) (hC : isC.map (fun i => ws[i]?) = wc.map some) (hR : isR.map (fun i => ws[i]?) = wr.map some) (hnd : va_nd isR = true) (hdis : ∀ i ∈ isR, i ∉ isC) {mc ms : Nat} {st0 : List Value} {av : Array Value} (hr : va_Run p l e R s m args below meth c H locs cells slots mc ms (F0 m pc ls st0) rest (fz_QN g K (va_A wc H.size) av) (va_A wc H.size))
    (kk : ∀ (W1 : va_W) (H1 : Heap) (locs1 : List Loc), K W1 → fz_W g A s (wr ++ W1) H1 locs1 → W p l e R s m args below meth c H1 locs1 (cells + mc) (slots + ms) Q (F0 m (pc + 3) ls rest)) : W p l e R s m args below meth c H locs cells slots Q (F0 m pc ls st0) := by
  obtain ⟨-, -, -, -, -, -, hE, hA⟩ := X
  have hF := va_free (wc := wc) hW.2.1 hW.2.2 hA isC hC
  intro T hT Y
  obtain ⟨v', st₀, t, T', L, h0, X', hL, e1, e2, ⟨⟨hv, W1, hK1, hP, hD⟩, hz, hk⟩, st⟩ := hr T hT Y
  cases hv
  rw [h0] at hz hk
  obtain ⟨j1, j2⟩ := va_join (wr := wr) (w1 := W1) hW.1 hW.2.1 isC isR hC hR hnd hdis hk hF hP hD
  obtain ⟨t2, a1, b1⟩ := kk W1 T'.heap (locs ++ L) hK1 ⟨by rw [e1]; exact j1, j2, Nat.le_trans hW.2.2.1 (by rw [e1]; exact hz), fun q h1 h2 => by rw [e1, hk q (Nat.lt_of_lt_of_le h1 hW.2.2.1) (fun z => h2 (hF q z))]; exact hW.2.2.2.1 q h1 h2, fun q hq => by
      rcases List.mem_append.mp hq with h | h
      · exact hW.2.2.2.2 q h
      · exact hF _ (hL q h)⟩ T' rfl X'
  exact ⟨t2, st t2 a1, b1⟩
theorem fz_preN (X : fz_X p s m meth c own cc n ret g A) (hW : fz_W g A s ws H locs) {wc : va_W} (isC : List Nat) (hC : isC.map (fun i => ws[i]?) = wc.map some) (hc : va_nd isC = true) (as : List Value) : ∀ U : State, U.heap = H → s.WarmedH U.vm → fz_P g as wc H.size as.toArray U := by
  obtain ⟨-, -, -, -, -, -, hE, -⟩ := X
  intro U hU hw
  exact ⟨rfl, by rw [hU], by rw [hU]; exact fz_P.pick hW.1 isC hC, fz_E.warm hw hE, (hW.2.1.sub isC hc hC).weaken (fun _ _ _ _ => trivial)⟩
theorem fz_cI (X : fz_X p s m meth c own cc n ret g A) (hW : fz_W g A s ws H locs) {y : MethodName} {b : ByteArray} {n' rf rc rs rl idx o : Nat} {wc wr : va_W} {K : va_W → Prop} {lv : List (Nat × Value)} (isC isR : List Nat)
    (hM : fz_CN l g y b n' rf rc rs rl [.ref o] wc K) (hL : fz_LI own idx y b n') (hC : isC.map (fun i => ws[i]?) = wc.map some) (hc : va_nd isC = true) (hR : isR.map (fun i => ws[i]?) = wr.map some) (hnd : va_nd isR = true) (hdis : ∀ i ∈ isR, i ∉ isC) (hRm : rf + 1 ≤ R.frames ∧ 8 + (n' + 11) + rl ≤ R.locals) (hl : lv_has ls n lv) (hrm : (rest.map fun v => v.category).sum ≤ 8) (hdg : decode cc pc = .ok (.invokespecial idx, 3)) (hcs : cells + rc ≤ R.cells ∧ slots + rs ≤ R.slots)
    (kk : ∀ (W1 : va_W) (H1 : Heap) (locs1 : List Loc), K W1 → fz_W g A s (wr ++ W1) H1 locs1 → W p l e R s m args below meth c H1 locs1 (cells + rc) (slots + rs) Q (F0 m (pc + 3) ls rest)) : W p l e R s m args below meth c H locs cells slots Q (F0 m pc ls (.ref o :: rest)) := by
  have hE := X.2.2.2.2.2.2.1
  refine fz_backN X hW isC isR hC hR hnd hdis (va_runI (y := y) (n := 0) (Ts := []) (As := []) ⟨X.1, X.2.1, X.2.2.2.1, X.2.2.2.2.1, fun _ h => absurd h List.not_mem_nil⟩ (hM H.size) ⟨fz_callB X hL.1 hL.2.1 hRm, hL.2.2.2, hE.use hL.2.2.1 _⟩ ⟨fz_P.blind, fz_preN X hW isC hC hc _⟩ rfl rfl hl.1 rfl (lv_room hrm) hdg hcs) kk
theorem fz_cJ (X : fz_X p s m meth c own cc n ret g A) (hW : fz_W g A s ws H locs) {y : MethodName} {b : ByteArray} {n' rf rc rs rl idx o : Nat} {wc wr : va_W} {K : va_W → Prop} {lv : List (Nat × Value)} (isC isR : List Nat)
    (hM : fz_CN l g y b n' rf rc rs rl [.ref o] wc K) (hL : fz_LJ own idx y b n') (hC : isC.map (fun i => ws[i]?) = wc.map some) (hc : va_nd isC = true) (hR : isR.map (fun i => ws[i]?) = wr.map some) (hnd : va_nd isR = true) (hdis : ∀ i ∈ isR, i ∉ isC) (hRm : rf + 1 ≤ R.frames ∧ 8 + (n' + 11) + rl ≤ R.locals) (hl : lv_has ls n lv) (hrm : (rest.map fun v => v.category).sum ≤ 8) (hdg : decode cc pc = .ok (.invokespecial idx, 3)) (hcs : cells + rc ≤ R.cells ∧ slots + rs ≤ R.slots)
    (kk : ∀ (W1 : va_W) (H1 : Heap) (locs1 : List Loc), K W1 → fz_W g A s (wr ++ W1) H1 locs1 → W p l e R s m args below meth c H1 locs1 (cells + rc) (slots + rs) Q (F0 m (pc + 3) ls rest)) : W p l e R s m args below meth c H locs cells slots Q (F0 m pc ls (.ref o :: rest)) := by
  have hE := X.2.2.2.2.2.2.1
  obtain ⟨hB, ⟨host, hl1⟩, hi1, hn1⟩ := hL
  refine fz_backN X hW isC isR hC hR hnd hdis (va_runIN (y := y) (n := 0) (Ts := []) (As := []) ⟨X.1, X.2.1, X.2.2.2.1, X.2.2.2.2.1, fun _ h => absurd h List.not_mem_nil⟩ (hM H.size) ⟨fz_callN X hB hl1 hRm, hn1, hE.use hi1 _⟩ ⟨fz_P.blind, fz_preN X hW isC hC hc _⟩ rfl rfl hl.1 rfl (lv_room hrm) hdg hcs) kk
theorem fz_rvN (X : fz_X p s m meth c own cc n none g A) {K : va_W → Prop} {mc ms : Nat} (hW : fz_W g A s ws H locs) (hK : K ws) (hcs : cells ≤ mc ∧ slots ≤ ms) (hdg : decode cc pc = .ok (.return_, 1)) : W p l e R s m args below meth c H locs cells slots (MQ below (fz_QN g K A) args s mc ms A) (F0 m pc ls []) :=
  W.widen hcs.1 hcs.2 (W.vret X.1 X.2.1 X.2.2.1 (fun t ht _ => ⟨⟨rfl, ws, hK, by rw [ht]; exact hW.1, hW.2.1⟩, hW.2.2.F ht⟩) hW.2.2.2.2 hdg X.2.2.2.2.2.1)
end FN

theorem oi_i : fz_M (.instanceMethod objectInit) := ⟨List.mem_of_getElem? (i := 34) (by decide +kernel), by decide +kernel⟩
theorem oi_c : fz_M (.code objectInit ⟨#[0xb1]⟩ 1 none) := ⟨List.mem_of_getElem? (i := 35) (by decide +kernel), by decide +kernel⟩
theorem ar_i : fz_M (.arrayClass .int) := ⟨List.mem_of_getElem? (i := 59) (by decide +kernel), by decide +kernel⟩
theorem ar_q : fz_M (.arrayOver (.object "FarScreen$BlockMove")) := ⟨List.mem_of_getElem? (i := 43) (by decide +kernel), by decide +kernel⟩
theorem oi_X0 : fz_M (.methodLink RX0 3 objectInit) := ⟨List.mem_of_getElem? (i := 64) (by decide +kernel), by decide +kernel⟩
theorem oi_X1 : fz_M (.methodLink RX1 3 objectInit) := ⟨List.mem_of_getElem? (i := 49) (by decide +kernel), by decide +kernel⟩
theorem oi_X2 : fz_M (.methodLink RX2 3 objectInit) := ⟨List.mem_of_getElem? (i := 41) (by decide +kernel), by decide +kernel⟩
theorem oi_X3 : fz_M (.methodLink RX3 1 objectInit) := ⟨List.mem_of_getElem? (i := 33) (by decide +kernel), by decide +kernel⟩
theorem cl_L_29 : fz_M (.classLink "FarScreenLaw" 29 "FarScreen") := ⟨List.mem_of_getElem? (i := 28) (by decide +kernel), by decide +kernel⟩
theorem ib_X3 : fz_M (.instantiable RX3 2) := ⟨List.mem_of_getElem? (i := 29) (by decide +kernel), by decide +kernel⟩
theorem cl_X3_7 : fz_M (.classLink "FarScreen" 7 "FarScreen$Sender") := ⟨List.mem_of_getElem? (i := 36) (by decide +kernel), by decide +kernel⟩
theorem ib_X2 : fz_M (.instantiable RX2 14) := ⟨List.mem_of_getElem? (i := 37) (by decide +kernel), by decide +kernel⟩
theorem cl_X2_33 : fz_M (.classLink "FarScreen$Sender" 33 "FarScreen$BlockMove") := ⟨List.mem_of_getElem? (i := 42) (by decide +kernel), by decide +kernel⟩
theorem cl_X2_43 : fz_M (.classLink "FarScreen$Sender" 43 "FarScreen$KnownRow") := ⟨List.mem_of_getElem? (i := 44) (by decide +kernel), by decide +kernel⟩
theorem ib_X1 : fz_M (.instantiable RX1 2) := ⟨List.mem_of_getElem? (i := 45) (by decide +kernel), by decide +kernel⟩
theorem ib_X0 : fz_M (.instantiable RX0 6) := ⟨List.mem_of_getElem? (i := 60) (by decide +kernel), by decide +kernel⟩
theorem ii_X0 : fz_M (.initialized RX0) := ⟨List.mem_of_getElem? (i := 18) (by decide +kernel), by decide +kernel⟩
theorem ii_X1 : fz_M (.initialized RX1) := ⟨List.mem_of_getElem? (i := 17) (by decide +kernel), by decide +kernel⟩
theorem ii_X2 : fz_M (.initialized RX2) := ⟨List.mem_of_getElem? (i := 16) (by decide +kernel), by decide +kernel⟩
theorem ii_X3 : fz_M (.initialized RX3) := ⟨List.mem_of_getElem? (i := 15) (by decide +kernel), by decide +kernel⟩
theorem nw_50 : fz_M (.fieldLink RX1 9 RX1 (TX1 0).2.1 (TX1 0).2.2.1) := ⟨List.mem_of_getElem? (i := 50) (by decide +kernel), by decide +kernel⟩
theorem nw_84 : fz_M (.fieldLink RX2 9 RX2 (TX2 0).2.1 (TX2 0).2.2.1) := ⟨List.mem_of_getElem? (i := 84) (by decide +kernel), by decide +kernel⟩
theorem nw_86 : fz_M (.fieldLink RX2 15 RX2 (TX2 1).2.1 (TX2 1).2.2.1) := ⟨List.mem_of_getElem? (i := 86) (by decide +kernel), by decide +kernel⟩
theorem nw_88 : fz_M (.fieldLink RX2 18 RX2 (TX2 2).2.1 (TX2 2).2.2.1) := ⟨List.mem_of_getElem? (i := 88) (by decide +kernel), by decide +kernel⟩
theorem nw_90 : fz_M (.fieldLink RX2 21 RX2 (TX2 3).2.1 (TX2 3).2.2.1) := ⟨List.mem_of_getElem? (i := 90) (by decide +kernel), by decide +kernel⟩
theorem nw_91 : fz_M (.fieldLink RX2 24 RX2 (TX2 4).2.1 (TX2 4).2.2.1) := ⟨List.mem_of_getElem? (i := 91) (by decide +kernel), by decide +kernel⟩
theorem nw_92 : fz_M (.fieldLink RX2 27 RX2 (TX2 5).2.1 (TX2 5).2.2.1) := ⟨List.mem_of_getElem? (i := 92) (by decide +kernel), by decide +kernel⟩
theorem nw_93 : fz_M (.fieldLink RX2 30 RX2 (TX2 6).2.1 (TX2 6).2.2.1) := ⟨List.mem_of_getElem? (i := 93) (by decide +kernel), by decide +kernel⟩
theorem nw_94 : fz_M (.fieldLink RX2 35 RX2 (TX2 7).2.1 (TX2 7).2.2.1) := ⟨List.mem_of_getElem? (i := 94) (by decide +kernel), by decide +kernel⟩
theorem nw_97 : fz_M (.fieldLink RX2 46 RX2 (TX2 9).2.1 (TX2 9).2.2.1) := ⟨List.mem_of_getElem? (i := 97) (by decide +kernel), by decide +kernel⟩
theorem nw_99 : fz_M (.fieldLink RX2 50 RX2 (TX2 10).2.1 (TX2 10).2.2.1) := ⟨List.mem_of_getElem? (i := 99) (by decide +kernel), by decide +kernel⟩
theorem nw_136 : fz_M (.fieldLink RX3 10 RX3 (TX3 0).2.1 (TX3 0).2.2.1) := ⟨List.mem_of_getElem? (i := 136) (by decide +kernel), by decide +kernel⟩
theorem nw_137 : fz_M (.fieldLink RX3 16 RX3 (TX3 1).2.1 (TX3 1).2.2.1) := ⟨List.mem_of_getElem? (i := 137) (by decide +kernel), by decide +kernel⟩
section FQL
variable {p : Program} {l : Launch} {e : Env} {R : Room} {s : State} {m : MethodId} {args : Array Value} {below : List Frame} {meth : Method} {c : Code} {H : Heap} {locs : List Loc} {cells slots : Nat} {Q : State → Prop}
variable {cc : ByteArray} {n : Nat} {ret : Option FieldType} {g : GG} {A : Nat → Prop} {ws : va_W} {pc : Nat} {ls : Array Slot} {rest : List Value} {a : Nat}
theorem qf_X1_9 (X : fz_X p s m meth c RX1 cc n ret g A) (hin : meth.name = "<init>") (hW : fz_W g A s ws H locs) (q0 : Nat) {fs : List Value} (he : ws[q0]? = some (a, .inr (1, fs))) {x : Nat} (hl : 0 < fs.length) (hdg : decode cc pc = .ok (.putfield 9, 3)) (kk : ∀ (H1 : Heap) (locs1 : List Loc), fz_W g A s (ws.set q0 (a, .inr (1, fs.set 0 (.ref x)))) H1 locs1 → W p l e R s m args below meth c H1 locs1 cells slots Q (F0 m (pc + 3) ls rest)) : W p l e R s m args below meth c H locs cells slots Q (F0 m pc ls (.ref x :: .ref a :: rest)) := fz_qf X hin hW inX1 rfl tyX1 tyX1_ok nmX1 0 (by decide) nw_50 rfl rfl rfl rfl rfl q0 he hl hdg kk
theorem qf_X2_9 (X : fz_X p s m meth c RX2 cc n ret g A) (hin : meth.name = "<init>") (hW : fz_W g A s ws H locs) (q0 : Nat) {fs : List Value} (he : ws[q0]? = some (a, .inr (2, fs))) {x : Nat} (hl : 0 < fs.length) (hdg : decode cc pc = .ok (.putfield 9, 3)) (kk : ∀ (H1 : Heap) (locs1 : List Loc), fz_W g A s (ws.set q0 (a, .inr (2, fs.set 0 (.ref x)))) H1 locs1 → W p l e R s m args below meth c H1 locs1 cells slots Q (F0 m (pc + 3) ls rest)) : W p l e R s m args below meth c H locs cells slots Q (F0 m pc ls (.ref x :: .ref a :: rest)) := fz_qf X hin hW inX2 rfl tyX2 tyX2_ok nmX2 0 (by decide) nw_84 rfl rfl rfl rfl rfl q0 he hl hdg kk
theorem qf_X2_15 (X : fz_X p s m meth c RX2 cc n ret g A) (hin : meth.name = "<init>") (hW : fz_W g A s ws H locs) (q0 : Nat) {fs : List Value} (he : ws[q0]? = some (a, .inr (2, fs))) {x : Nat} (hl : 1 < fs.length) (hdg : decode cc pc = .ok (.putfield 15, 3)) (kk : ∀ (H1 : Heap) (locs1 : List Loc), fz_W g A s (ws.set q0 (a, .inr (2, fs.set 1 (.ref x)))) H1 locs1 → W p l e R s m args below meth c H1 locs1 cells slots Q (F0 m (pc + 3) ls rest)) : W p l e R s m args below meth c H locs cells slots Q (F0 m pc ls (.ref x :: .ref a :: rest)) := fz_qf X hin hW inX2 rfl tyX2 tyX2_ok nmX2 1 (by decide) nw_86 rfl rfl rfl rfl rfl q0 he hl hdg kk
theorem qf_X2_18 (X : fz_X p s m meth c RX2 cc n ret g A) (hin : meth.name = "<init>") (hW : fz_W g A s ws H locs) (q0 : Nat) {fs : List Value} (he : ws[q0]? = some (a, .inr (2, fs))) {x : Nat} (hl : 2 < fs.length) (hdg : decode cc pc = .ok (.putfield 18, 3)) (kk : ∀ (H1 : Heap) (locs1 : List Loc), fz_W g A s (ws.set q0 (a, .inr (2, fs.set 2 (.ref x)))) H1 locs1 → W p l e R s m args below meth c H1 locs1 cells slots Q (F0 m (pc + 3) ls rest)) : W p l e R s m args below meth c H locs cells slots Q (F0 m pc ls (.ref x :: .ref a :: rest)) := fz_qf X hin hW inX2 rfl tyX2 tyX2_ok nmX2 2 (by decide) nw_88 rfl rfl rfl rfl rfl q0 he hl hdg kk
theorem qf_X2_21 (X : fz_X p s m meth c RX2 cc n ret g A) (hin : meth.name = "<init>") (hW : fz_W g A s ws H locs) (q0 : Nat) {fs : List Value} (he : ws[q0]? = some (a, .inr (2, fs))) {x : Nat} (hl : 3 < fs.length) (hdg : decode cc pc = .ok (.putfield 21, 3)) (kk : ∀ (H1 : Heap) (locs1 : List Loc), fz_W g A s (ws.set q0 (a, .inr (2, fs.set 3 (.ref x)))) H1 locs1 → W p l e R s m args below meth c H1 locs1 cells slots Q (F0 m (pc + 3) ls rest)) : W p l e R s m args below meth c H locs cells slots Q (F0 m pc ls (.ref x :: .ref a :: rest)) := fz_qf X hin hW inX2 rfl tyX2 tyX2_ok nmX2 3 (by decide) nw_90 rfl rfl rfl rfl rfl q0 he hl hdg kk
theorem qf_X2_24 (X : fz_X p s m meth c RX2 cc n ret g A) (hin : meth.name = "<init>") (hW : fz_W g A s ws H locs) (q0 : Nat) {fs : List Value} (he : ws[q0]? = some (a, .inr (2, fs))) {x : Nat} (hl : 4 < fs.length) (hdg : decode cc pc = .ok (.putfield 24, 3)) (kk : ∀ (H1 : Heap) (locs1 : List Loc), fz_W g A s (ws.set q0 (a, .inr (2, fs.set 4 (.ref x)))) H1 locs1 → W p l e R s m args below meth c H1 locs1 cells slots Q (F0 m (pc + 3) ls rest)) : W p l e R s m args below meth c H locs cells slots Q (F0 m pc ls (.ref x :: .ref a :: rest)) := fz_qf X hin hW inX2 rfl tyX2 tyX2_ok nmX2 4 (by decide) nw_91 rfl rfl rfl rfl rfl q0 he hl hdg kk
theorem qf_X2_27 (X : fz_X p s m meth c RX2 cc n ret g A) (hin : meth.name = "<init>") (hW : fz_W g A s ws H locs) (q0 : Nat) {fs : List Value} (he : ws[q0]? = some (a, .inr (2, fs))) {x : Nat} (hl : 5 < fs.length) (hdg : decode cc pc = .ok (.putfield 27, 3)) (kk : ∀ (H1 : Heap) (locs1 : List Loc), fz_W g A s (ws.set q0 (a, .inr (2, fs.set 5 (.ref x)))) H1 locs1 → W p l e R s m args below meth c H1 locs1 cells slots Q (F0 m (pc + 3) ls rest)) : W p l e R s m args below meth c H locs cells slots Q (F0 m pc ls (.ref x :: .ref a :: rest)) := fz_qf X hin hW inX2 rfl tyX2 tyX2_ok nmX2 5 (by decide) nw_92 rfl rfl rfl rfl rfl q0 he hl hdg kk
theorem qf_X2_30 (X : fz_X p s m meth c RX2 cc n ret g A) (hin : meth.name = "<init>") (hW : fz_W g A s ws H locs) (q0 : Nat) {fs : List Value} (he : ws[q0]? = some (a, .inr (2, fs))) {x : Nat} (hl : 6 < fs.length) (hdg : decode cc pc = .ok (.putfield 30, 3)) (kk : ∀ (H1 : Heap) (locs1 : List Loc), fz_W g A s (ws.set q0 (a, .inr (2, fs.set 6 (.ref x)))) H1 locs1 → W p l e R s m args below meth c H1 locs1 cells slots Q (F0 m (pc + 3) ls rest)) : W p l e R s m args below meth c H locs cells slots Q (F0 m pc ls (.ref x :: .ref a :: rest)) := fz_qf X hin hW inX2 rfl tyX2 tyX2_ok nmX2 6 (by decide) nw_93 rfl rfl rfl rfl rfl q0 he hl hdg kk
theorem qf_X2_35 (X : fz_X p s m meth c RX2 cc n ret g A) (hin : meth.name = "<init>") (hW : fz_W g A s ws H locs) (q0 : Nat) {fs : List Value} (he : ws[q0]? = some (a, .inr (2, fs))) {x : Nat} (hl : 7 < fs.length) (hdg : decode cc pc = .ok (.putfield 35, 3)) (kk : ∀ (H1 : Heap) (locs1 : List Loc), fz_W g A s (ws.set q0 (a, .inr (2, fs.set 7 (.ref x)))) H1 locs1 → W p l e R s m args below meth c H1 locs1 cells slots Q (F0 m (pc + 3) ls rest)) : W p l e R s m args below meth c H locs cells slots Q (F0 m pc ls (.ref x :: .ref a :: rest)) := fz_qf X hin hW inX2 rfl tyX2 tyX2_ok nmX2 7 (by decide) nw_94 rfl rfl rfl rfl rfl q0 he hl hdg kk
theorem qf_X2_46 (X : fz_X p s m meth c RX2 cc n ret g A) (hin : meth.name = "<init>") (hW : fz_W g A s ws H locs) (q0 : Nat) {fs : List Value} (he : ws[q0]? = some (a, .inr (2, fs))) {x : Nat} (hl : 9 < fs.length) (hdg : decode cc pc = .ok (.putfield 46, 3)) (kk : ∀ (H1 : Heap) (locs1 : List Loc), fz_W g A s (ws.set q0 (a, .inr (2, fs.set 9 (.ref x)))) H1 locs1 → W p l e R s m args below meth c H1 locs1 cells slots Q (F0 m (pc + 3) ls rest)) : W p l e R s m args below meth c H locs cells slots Q (F0 m pc ls (.ref x :: .ref a :: rest)) := fz_qf X hin hW inX2 rfl tyX2 tyX2_ok nmX2 9 (by decide) nw_97 rfl rfl rfl rfl rfl q0 he hl hdg kk
theorem qf_X2_50 (X : fz_X p s m meth c RX2 cc n ret g A) (hin : meth.name = "<init>") (hW : fz_W g A s ws H locs) (q0 : Nat) {fs : List Value} (he : ws[q0]? = some (a, .inr (2, fs))) {x : Nat} (hl : 10 < fs.length) (hdg : decode cc pc = .ok (.putfield 50, 3)) (kk : ∀ (H1 : Heap) (locs1 : List Loc), fz_W g A s (ws.set q0 (a, .inr (2, fs.set 10 (.ref x)))) H1 locs1 → W p l e R s m args below meth c H1 locs1 cells slots Q (F0 m (pc + 3) ls rest)) : W p l e R s m args below meth c H locs cells slots Q (F0 m pc ls (.ref x :: .ref a :: rest)) := fz_qf X hin hW inX2 rfl tyX2 tyX2_ok nmX2 10 (by decide) nw_99 rfl rfl rfl rfl rfl q0 he hl hdg kk
theorem qf_X3_10 (X : fz_X p s m meth c RX3 cc n ret g A) (hin : meth.name = "<init>") (hW : fz_W g A s ws H locs) (q0 : Nat) {fs : List Value} (he : ws[q0]? = some (a, .inr (3, fs))) {x : Nat} (hl : 0 < fs.length) (hdg : decode cc pc = .ok (.putfield 10, 3)) (kk : ∀ (H1 : Heap) (locs1 : List Loc), fz_W g A s (ws.set q0 (a, .inr (3, fs.set 0 (.ref x)))) H1 locs1 → W p l e R s m args below meth c H1 locs1 cells slots Q (F0 m (pc + 3) ls rest)) : W p l e R s m args below meth c H locs cells slots Q (F0 m pc ls (.ref x :: .ref a :: rest)) := fz_qf X hin hW inX3 rfl tyX3 tyX3_ok nmX3 0 (by decide) nw_136 rfl rfl rfl rfl rfl q0 he hl hdg kk
theorem qf_X3_16 (X : fz_X p s m meth c RX3 cc n ret g A) (hin : meth.name = "<init>") (hW : fz_W g A s ws H locs) (q0 : Nat) {fs : List Value} (he : ws[q0]? = some (a, .inr (3, fs))) {x : Nat} (hl : 1 < fs.length) (hdg : decode cc pc = .ok (.putfield 16, 3)) (kk : ∀ (H1 : Heap) (locs1 : List Loc), fz_W g A s (ws.set q0 (a, .inr (3, fs.set 1 (.ref x)))) H1 locs1 → W p l e R s m args below meth c H1 locs1 cells slots Q (F0 m (pc + 3) ls rest)) : W p l e R s m args below meth c H locs cells slots Q (F0 m pc ls (.ref x :: .ref a :: rest)) := fz_qf X hin hW inX3 rfl tyX3 tyX3_ok nmX3 1 (by decide) nw_137 rfl rfl rfl rfl rfl q0 he hl hdg kk
end FQL
theorem nw_46 : fz_M (.methodLinkNest RX2 45 yX1_init "FarScreen") := ⟨List.mem_of_getElem? (i := 46) (by decide +kernel), by decide +kernel⟩
theorem nw_48 : fz_M (.code yX1_init cX1_init 1 none) := ⟨List.mem_of_getElem? (i := 48) (by decide +kernel), by decide +kernel⟩
theorem nw_47 : fz_M (.instanceMethod yX1_init) := ⟨List.mem_of_getElem? (i := 47) (by decide +kernel), by decide +kernel⟩
theorem lk_X2_45 : fz_LJ RX2 45 yX1_init cX1_init 1 := ⟨⟨ii_X1, nw_48, by decide +kernel, by decide +kernel, by decide +kernel⟩, ⟨_, nw_46⟩, nw_47, rfl⟩
theorem nw_61 : fz_M (.methodLinkNest RX2 62 yX0_init "FarScreen") := ⟨List.mem_of_getElem? (i := 61) (by decide +kernel), by decide +kernel⟩
theorem nw_63 : fz_M (.code yX0_init cX0_init 1 none) := ⟨List.mem_of_getElem? (i := 63) (by decide +kernel), by decide +kernel⟩
theorem nw_62 : fz_M (.instanceMethod yX0_init) := ⟨List.mem_of_getElem? (i := 62) (by decide +kernel), by decide +kernel⟩
theorem lk_X2_62 : fz_LJ RX2 62 yX0_init cX0_init 1 := ⟨⟨ii_X0, nw_63, by decide +kernel, by decide +kernel, by decide +kernel⟩, ⟨_, nw_61⟩, nw_62, rfl⟩
theorem nw_38 : fz_M (.methodLink RX3 9 yX2_init) := ⟨List.mem_of_getElem? (i := 38) (by decide +kernel), by decide +kernel⟩
theorem nw_40 : fz_M (.code yX2_init cX2_init 2 none) := ⟨List.mem_of_getElem? (i := 40) (by decide +kernel), by decide +kernel⟩
theorem nw_39 : fz_M (.instanceMethod yX2_init) := ⟨List.mem_of_getElem? (i := 39) (by decide +kernel), by decide +kernel⟩
theorem lk_X3_9 : fz_LI RX3 9 yX2_init cX2_init 2 := ⟨⟨ii_X2, nw_40, by decide +kernel, by decide +kernel, by decide +kernel⟩, nw_38, nw_39, rfl⟩
