section
-- ===== PART A: goes FIRST, ahead of the names: the tables' words, and 'selects' of the private methods out of them =====
/-- a private method of a class that the tables say can be made, by its rows of tables_1 -/
def lw_okq (q : MethodName × Nat) : Prop := (q.1.cls ≠ "java/lang/invoke/MethodHandle" ∧ q.1.cls ≠ "java/lang/invoke/VarHandle") ∧ Cond.instantiable q.1.cls q.2 ∈ tables_1 ∧ Cond.privateMethod q.1 ∈ tables_1 ∧ Cond.instanceMethod q.1 ∈ tables_1
theorem lw_p0 : lw_okq (⟨"java/lang/Throwable", "fillInStackTrace", "(I)Ljava/lang/Throwable;"⟩, 6) := ⟨⟨by decide +kernel, by decide +kernel⟩, List.mem_of_getElem? (i := 177) (by decide +kernel), List.mem_of_getElem? (i := 175) (by decide +kernel), List.mem_of_getElem? (i := 176) (by decide +kernel)⟩
theorem lw_p1 : lw_okq (⟨"FarScreen$Sender", "noteChanges", "()V"⟩, 14) := ⟨⟨by decide +kernel, by decide +kernel⟩, List.mem_of_getElem? (i := 23) (by decide +kernel), List.mem_of_getElem? (i := 234) (by decide +kernel), List.mem_of_getElem? (i := 235) (by decide +kernel)⟩
theorem lw_p2 : lw_okq (⟨"FarScreen$Sender", "noteUnlike", "()V"⟩, 14) := ⟨⟨by decide +kernel, by decide +kernel⟩, List.mem_of_getElem? (i := 23) (by decide +kernel), List.mem_of_getElem? (i := 238) (by decide +kernel), List.mem_of_getElem? (i := 239) (by decide +kernel)⟩
theorem lw_p3 : lw_okq (⟨"FarScreen$Sender", "tellMoves", "(I)I"⟩, 14) := ⟨⟨by decide +kernel, by decide +kernel⟩, List.mem_of_getElem? (i := 23) (by decide +kernel), List.mem_of_getElem? (i := 292) (by decide +kernel), List.mem_of_getElem? (i := 293) (by decide +kernel)⟩
theorem lw_p4 : lw_okq (⟨"FarScreen$Sender", "forgetMoves", "(I)V"⟩, 14) := ⟨⟨by decide +kernel, by decide +kernel⟩, List.mem_of_getElem? (i := 23) (by decide +kernel), List.mem_of_getElem? (i := 296) (by decide +kernel), List.mem_of_getElem? (i := 297) (by decide +kernel)⟩
theorem lw_p5 : lw_okq (⟨"FarScreen$Sender", "sendTiles", "(I)I"⟩, 14) := ⟨⟨by decide +kernel, by decide +kernel⟩, List.mem_of_getElem? (i := 23) (by decide +kernel), List.mem_of_getElem? (i := 305) (by decide +kernel), List.mem_of_getElem? (i := 306) (by decide +kernel)⟩
theorem lw_p6 : lw_okq (⟨"FarScreen$Sender", "putInOrder", "()I"⟩, 14) := ⟨⟨by decide +kernel, by decide +kernel⟩, List.mem_of_getElem? (i := 23) (by decide +kernel), List.mem_of_getElem? (i := 309) (by decide +kernel), List.mem_of_getElem? (i := 310) (by decide +kernel)⟩
theorem lw_p7 : lw_okq (⟨"FarScreen$Sender", "worthOf", "(I)I"⟩, 14) := ⟨⟨by decide +kernel, by decide +kernel⟩, List.mem_of_getElem? (i := 23) (by decide +kernel), List.mem_of_getElem? (i := 313) (by decide +kernel), List.mem_of_getElem? (i := 314) (by decide +kernel)⟩
theorem lw_p8 : lw_okq (⟨"FarScreen$Sender", "isLookedAt", "(I)Z"⟩, 14) := ⟨⟨by decide +kernel, by decide +kernel⟩, List.mem_of_getElem? (i := 23) (by decide +kernel), List.mem_of_getElem? (i := 317) (by decide +kernel), List.mem_of_getElem? (i := 318) (by decide +kernel)⟩
theorem lw_p9 : lw_okq (⟨"FarScreen$Sender", "insertInOrder", "(II)V"⟩, 14) := ⟨⟨by decide +kernel, by decide +kernel⟩, List.mem_of_getElem? (i := 23) (by decide +kernel), List.mem_of_getElem? (i := 324) (by decide +kernel), List.mem_of_getElem? (i := 325) (by decide +kernel)⟩
theorem lw_p10 : lw_okq (⟨"FarScreen$Sender", "sendTile", "(II)I"⟩, 14) := ⟨⟨by decide +kernel, by decide +kernel⟩, List.mem_of_getElem? (i := 23) (by decide +kernel), List.mem_of_getElem? (i := 328) (by decide +kernel), List.mem_of_getElem? (i := 329) (by decide +kernel)⟩
theorem lw_p11 : lw_okq (⟨"FarScreen$Sender", "sendPicture", "(IIII)I"⟩, 14) := ⟨⟨by decide +kernel, by decide +kernel⟩, List.mem_of_getElem? (i := 23) (by decide +kernel), List.mem_of_getElem? (i := 340) (by decide +kernel), List.mem_of_getElem? (i := 341) (by decide +kernel)⟩
theorem lw_p12 : lw_okq (⟨"FarScreen$Sender", "sendRoughly", "(II)I"⟩, 14) := ⟨⟨by decide +kernel, by decide +kernel⟩, List.mem_of_getElem? (i := 23) (by decide +kernel), List.mem_of_getElem? (i := 358) (by decide +kernel), List.mem_of_getElem? (i := 359) (by decide +kernel)⟩
theorem lw_p13 : lw_okq (⟨"FarScreen$Sender", "settleChanges", "()V"⟩, 14) := ⟨⟨by decide +kernel, by decide +kernel⟩, List.mem_of_getElem? (i := 23) (by decide +kernel), List.mem_of_getElem? (i := 365) (by decide +kernel), List.mem_of_getElem? (i := 366) (by decide +kernel)⟩
def lw_privs_1 : List (MethodName × Nat) := [(⟨"java/lang/Throwable", "fillInStackTrace", "(I)Ljava/lang/Throwable;"⟩, 6), (⟨"FarScreen$Sender", "noteChanges", "()V"⟩, 14), (⟨"FarScreen$Sender", "noteUnlike", "()V"⟩, 14), (⟨"FarScreen$Sender", "tellMoves", "(I)I"⟩, 14), (⟨"FarScreen$Sender", "forgetMoves", "(I)V"⟩, 14), (⟨"FarScreen$Sender", "sendTiles", "(I)I"⟩, 14), (⟨"FarScreen$Sender", "putInOrder", "()I"⟩, 14), (⟨"FarScreen$Sender", "worthOf", "(I)I"⟩, 14), (⟨"FarScreen$Sender", "isLookedAt", "(I)Z"⟩, 14), (⟨"FarScreen$Sender", "insertInOrder", "(II)V"⟩, 14), (⟨"FarScreen$Sender", "sendTile", "(II)I"⟩, 14), (⟨"FarScreen$Sender", "sendPicture", "(IIII)I"⟩, 14), (⟨"FarScreen$Sender", "sendRoughly", "(II)I"⟩, 14), (⟨"FarScreen$Sender", "settleChanges", "()V"⟩, 14)]
theorem lw_r1 : ∀ q ∈ lw_privs_1, lw_okq q := List.forall_mem_cons.mpr ⟨lw_p0, List.forall_mem_cons.mpr ⟨lw_p1, List.forall_mem_cons.mpr ⟨lw_p2, List.forall_mem_cons.mpr ⟨lw_p3, List.forall_mem_cons.mpr ⟨lw_p4, List.forall_mem_cons.mpr ⟨lw_p5, List.forall_mem_cons.mpr ⟨lw_p6, List.forall_mem_cons.mpr ⟨lw_p7, List.forall_mem_cons.mpr ⟨lw_p8, List.forall_mem_cons.mpr ⟨lw_p9, List.forall_mem_cons.mpr ⟨lw_p10, List.forall_mem_cons.mpr ⟨lw_p11, List.forall_mem_cons.mpr ⟨lw_p12, List.forall_mem_cons.mpr ⟨lw_p13, fun _ h => absurd h List.not_mem_nil⟩⟩⟩⟩⟩⟩⟩⟩⟩⟩⟩⟩⟩⟩
def lw_privs : List (MethodName × Nat) := lw_privs_1
def lw_tbl : List Cond := k2_sels lw_privs ++ tables_1
theorem lw_privs_ok : ∀ q ∈ lw_privs, lw_okq q := lw_r1
-- ===== end of PART A; then your names; then what follows =====
/-! ===== BEGIN exceptions that leave a method, and their catching by the caller (launches without stack traces) ===== -/
section VXA
/-! The laws vx_back, vx_callV, vx_callS, vx_callSW, vx_throw0, vx_throwS follow proofs of the library, with one case more: JvmDerived/Free/Laws.lean (Back.of_free), Shelf42/LK1.lean (callV, callS), Shelf/KitTraced.lean (throwNew0V, throwNewS). -/
/-- where a method has thrown q: the class by its name, the cell, what was written, the world -/
def vx_T (XC : String → State → State → Prop) (st : State) (q : Addr) (t : State) (mc ms : Nat) (free : Addr → Prop) : Prop :=
  ∃ (E : String) (ce : Cell) (L : List Loc), XC E st t ∧ t.heap[q]? = some ce ∧ ce.vm = .none ∧ st.vm.findClass E = some ce.cls ∧ st.WarmedH t.vm ∧ st.sameButNew ({ t with vm := st.vm } : State) L mc ms ∧ ∀ z ∈ L, free z.base
def vx_Q (Qc : Array Value → State → Outcome → State → Prop) (XC : String → State → State → Prop) (mc ms : Nat) (free : Addr → Prop) : Array Value → State → Outcome → State → Prop := fun a st o t =>
  (Qc a st o t ∧ ∃ L, FrameEnd st o t L mc ms ∧ ∀ q ∈ L, free q.base) ∨ ∃ q, o = .threw q ∧ vx_T XC st q t mc ms free
/-- a callee that returns or throws -/
def vx_Met (l : Launch) (y : MethodName) (ws : List Cond) (rm : Room) (Pc : Array Value → State → Prop) (Qc : Array Value → State → Outcome → State → Prop) (XC : String → State → State → Prop) (mc ms : Nat) (free : Addr → Prop) : Prop :=
  MetFree l y (headSpec ws rm) Pc (fun _ _ _ _ _ => True) (vx_Q Qc XC mc ms free)
def vx_Post (XC : String → State → State → Prop) (mc ms : Nat) (free : Addr → Prop) : Pt → Array Value → Addr → Pt → Prop := fun A a q B =>
  ∃ (g : JFrame) (mk : MethodId) (t : State) (L : List Loc) (E : String) (ce : Cell), B.U.heap = t.heap ∧ B.U.vm = t.vm ∧ XC E (A.U.calling g mk a) t ∧ t.heap[q]? = some ce ∧ ce.vm = .none ∧ A.U.vm.findClass E = some ce.cls ∧ B.locs = A.locs ++ L ∧ (∀ z ∈ L, free z.base) ∧ B.cells = A.cells + mc ∧ B.slots = A.slots + ms
def vx_Back (l : Launch) (R : Room) (p : Program) (e : Env) (below : List Frame) (s : State) (sargs : Array Value) (y : MethodName) (len W9 : Nat)
    (Pre : Pt → Array Value → Prop) (Post : Pt → Array Value → Option Value → Pt → Prop) (PostX : Pt → Array Value → Addr → Pt → Prop) : Prop :=
  ∀ (m : MethodId) (meth : Method) (c : Code) (A : Pt) (g : JFrame) (ig : Instr) (mk : MethodId) (a : Array Value),
    Stand p l e R s m sargs below meth c A.U A.locs A.cells A.slots → g.method = m → g.locals.size = c.maxLocals → decode c.code g.pc = .ok (ig, len) →
    2 * g.monitorRoom + (g.stack.map fun v => v.category).sum ≤ W9 → A.U.methodNamed? y = some mk → Pre A a →
    (∃ (v : Option Value) (B : Pt), Stand p l e R s m sargs below meth c B.U B.locs B.cells B.slots ∧ Post A a v B ∧
      Steps p.tables e below (doInvoke e (A.U.setTop g) [] mk a).1 (B.U.setTop { g with pc := g.pc + len, stack := v.toList ++ g.stack })) ∨
    (∃ (q : Addr) (B : Pt), Stand p l e R s m sargs below meth c B.U B.locs B.cells B.slots ∧ PostX A a q B ∧
      Steps p.tables e below (doInvoke e (A.U.setTop g) [] mk a).1 ((B.U.setTop g).pushFrame (.throwing q)))
section Payer
variable {l : Launch} {R : Room} {p : Program} {e : Env} {below : List Frame} {s : State} {sargs : Array Value} {y : MethodName} {len W9 : Nat}
theorem vx_back {ws : List Cond} {rm : Room} {Pc : Array Value → State → Prop} {Qc : Array Value → State → Outcome → State → Prop} {XC : String → State → State → Prop} {mc ms : Nat} {free : Addr → Prop} {bytes : ByteArray} {maxL : Nat} {ret : Option FieldType}
    (hM : vx_Met l y ws rm Pc Qc XC mc ms free) (hblind : FrameBlind Pc) (hrc : rm.cells = mc) (hrs : rm.slots = ms)
    (hframes : rm.frames + 1 ≤ R.frames) (hlocals : W9 + (maxL + 11) + rm.locals ≤ R.locals)
    (hws : ∀ w ∈ ws, ∀ a' U, s.WarmedH U.vm → w.before a' U = true) (hcode : Cond.code y bytes maxL ret ∈ ws) (hinit : ∀ a' U, s.WarmedH U.vm → (Cond.initialized y.cls).before a' U = true) :
    vx_Back l R p e below s sargs y len W9 (PreOf R mc ms Pc) (PostOf Qc mc ms free) (vx_Post XC mc ms free) := by
  intro m meth c A g ig mk a X hg hsize hdg hW hn hp
  have h1 : (headSpec ws rm).pre.before a A.U = true := atoms_intro fun w hw => hws w hw _ _ X.warmed
  have h2 : (Cond.code y bytes maxL ret).before a A.U = true := hws _ hcode _ _ X.warmed
  have h3 : (Cond.initialized y.cls).before a A.U = true := hinit _ _ X.warmed
  have h4 : A.cells + (headSpec ws rm).room.cells ≤ R.cells := by rw [show (headSpec ws rm).room.cells = mc from hrc]; exact hp.1
  have h5 : A.slots + (headSpec ws rm).room.slots ≤ R.slots := by rw [show (headSpec ws rm).room.slots = ms from hrs]; exact hp.2.1
  have hPc : Pc a (A.U.calling g mk a) := hblind _ _ _ _ hp.2.2
  obtain ⟨U, Ls, c0, s0⟩ := A
  dsimp only [Pt.U, Pt.locs, Pt.cells, Pt.slots] at h1 h2 h3 h4 h5 X hn hPc ⊢
  obtain ⟨methY, cY, hmY, hcY, -, hlY, -, -, -, -⟩ := Cond.code_spec hn h2
  obtain ⟨kY, hkY, -⟩ := className_of_methodNamed hn
  have hinitY : kY.init = .initialized := Cond.initialized_spec (findClass_of_methodNamed hn) hkY h3
  have h : At U g.method c below := by rw [hg]; exact X.here
  have hlocals9 : W9 + (maxL + 11) + (headSpec ws rm).room.locals ≤ R.locals := hlocals
  have happ : (headSpec ws rm).appliesLoose y e.platform (U.calling g mk a) = true :=
    Spec.appliesLoose_calling (g := g) h hdg hn hkY hinitY
      (X.room_calling (g := g) (R' := (headSpec ws rm).room) hsize hmY hcY hframes (by rw [hlY]; omega) h4 h5) h1
  obtain ⟨mid, hmid⟩ := h.above
  have hfr : (U.setTop g).frames = (.java g :: mid) ++ below := by rw [State.frames_setTop' g h.top, hmid]; rfl
  obtain ⟨o, s₂, hsteps, -, hend, hq⟩ := Steps.callFree hM p X.admits X.cas X.clock (acts := []) hfr happ hPc trivial
  have hq' : vx_Q Qc XC mc ms free a (U.calling g mk a) o s₂ := hq
  rw [State.frames_setTop' g h.top] at hend
  obtain ⟨g₀, hg0⟩ := Option.isSome_iff_exists.mp h.top
  obtain ⟨r, hr⟩ := State.topJava?_eq_some.mp hg0
  have hr' : (({ U with heap := s₂.heap, slotsUsed := s₂.slotsUsed } : State).setVm s₂.vm).frames = .java g₀ :: r := hr
  rcases hq' with ⟨hqc, L, hfe, hL⟩ | ⟨q, rfl, E, ce, L, hx, hce, hcv, hcl, hW₂, hsm, hL⟩
  · obtain ⟨⟨v, rfl⟩, hW₂, e2, q2, q3, q4, q5, q6⟩ := id hfe
    have e3 : s₂ = ({ (U.calling g mk a).setFrames s₂.frames with heap := s₂.heap, slotsUsed := s₂.slotsUsed } : State).setVm s₂.vm := by
      have : s₂ = ({ s₂ with vm := (U.calling g mk a).vm } : State).setVm s₂.vm := rfl
      rw [e2] at this
      exact this
    obtain ⟨c₂, i₂, len₂, hc₂, hd₂, hf₂⟩ := hend
    have hW' : U.WarmedH s₂.vm := hW₂
    have hcc : c₂ = c := by
      have h1 : s₂.code? g.method = U.code? g.method := by
        rw [State.code?_eq, State.code?_eq, hW'.alike.method?]
      exact Option.some.inj (hc₂.symm.trans (h1.trans h.code))
    subst hcc
    have hlen : len₂ = len := by rw [hdg] at hd₂; cases hd₂; rfl
    subst hlen
    have hs₂ : s₂ = (({ U with heap := s₂.heap, slotsUsed := s₂.slotsUsed } : State).setVm s₂.vm).setTop { g with pc := g.pc + len₂, stack := v.toList ++ g.stack } := by
      refine e3.trans ?_
      rw [hf₂, State.calling_eq h.top, State.setFrames_setFrames, State.setTop_of_frames _ hr', hr]
      rfl
    have hsame : U.sameButNew ({ U with heap := s₂.heap, slotsUsed := s₂.slotsUsed } : State) L mc ms := by
      refine ⟨?_, q2, q3, q4, q5, q6⟩
      obtain ⟨t, ht, -⟩ := State.frames_cons hr
      show ({ U with heap := s₂.heap, slotsUsed := s₂.slotsUsed } : State) = { U.setFrames U.frames with heap := s₂.heap, slotsUsed := s₂.slotsUsed }
      rw [State.setFrames_self ht]
    subst hg
    refine Or.inl ⟨v, ⟨(({ U with heap := s₂.heap, slotsUsed := s₂.slotsUsed } : State).setVm s₂.vm), Ls ++ L, c0 + mc, s0 + ms⟩,
      ⟨X.admits, X.cas, X.clock, X.frames, X.room, X.hears, X.method, X.code, (X.here.setHeapUsed s₂.heap s₂.slotsUsed).setVm hW'.alike, X.tail, State.WarmedH.trans X.warmed hW', X.limits, X.bytes, X.same.trans (hsame.setVm s.vm)⟩,
      ⟨g, mk, s₂, L, rfl, rfl, hqc, rfl, hL, rfl, rfl⟩, ?_⟩
    show Steps p.tables e below _ ((({ U with heap := s₂.heap, slotsUsed := s₂.slotsUsed } : State).setVm s₂.vm).setTop { g with pc := g.pc + len₂, stack := v.toList ++ g.stack })
    rw [← hs₂]
    exact hsteps
  · obtain ⟨e2, q2, q3, q4, q5, q6⟩ := id hsm
    have e3 : s₂ = ({ (U.calling g mk a).setFrames s₂.frames with heap := s₂.heap, slotsUsed := s₂.slotsUsed } : State).setVm s₂.vm := by
      have : s₂ = ({ s₂ with vm := (U.calling g mk a).vm } : State).setVm s₂.vm := rfl
      rw [e2] at this
      exact this
    have hf₂ : s₂.frames = .throwing q :: .java g :: U.frames.tail := hend
    have hW' : U.WarmedH s₂.vm := hW₂
    have hs₂ : s₂ = ((({ U with heap := s₂.heap, slotsUsed := s₂.slotsUsed } : State).setVm s₂.vm).setTop g).pushFrame (.throwing q) := by
      refine e3.trans ?_
      rw [hf₂, State.calling_eq h.top, State.setFrames_setFrames, State.pushFrame, State.frames_setTop _ hr', State.setTop_of_frames _ hr', State.setFrames_setFrames, hr]
      rfl
    have hsame : U.sameButNew ({ U with heap := s₂.heap, slotsUsed := s₂.slotsUsed } : State) L mc ms := by
      refine ⟨?_, q2, q3, q4, q5, q6⟩
      obtain ⟨t, ht, -⟩ := State.frames_cons hr
      show ({ U with heap := s₂.heap, slotsUsed := s₂.slotsUsed } : State) = { U.setFrames U.frames with heap := s₂.heap, slotsUsed := s₂.slotsUsed }
      rw [State.setFrames_self ht]
    subst hg
    refine Or.inr ⟨q, ⟨(({ U with heap := s₂.heap, slotsUsed := s₂.slotsUsed } : State).setVm s₂.vm), Ls ++ L, c0 + mc, s0 + ms⟩,
      ⟨X.admits, X.cas, X.clock, X.frames, X.room, X.hears, X.method, X.code, (X.here.setHeapUsed s₂.heap s₂.slotsUsed).setVm hW'.alike, X.tail, State.WarmedH.trans X.warmed hW', X.limits, X.bytes, X.same.trans (hsame.setVm s.vm)⟩,
      ⟨g, mk, s₂, L, E, ce, rfl, rfl, hx, hce, hcv, hcl, rfl, hL, rfl, rfl⟩, ?_⟩
    show Steps p.tables e below _ (((({ U with heap := s₂.heap, slotsUsed := s₂.slotsUsed } : State).setVm s₂.vm).setTop g).pushFrame (.throwing q))
    rw [← hs₂]
    exact hsteps
end Payer
section Calls
variable {p : Program} {l : Launch} {e : Env} {R : Room} {s : State} {m : MethodId} {args : Array Value} {below : List Frame} {meth : Method} {c : Code} {T : State} {locs : List Loc} {cells slots : Nat}
theorem vx_callV (X : Stand p l e R s m args below meth c T locs cells slots) (hexec : p.tables.exec = Jvm.exec) {own C : String} {index : Nat} {y : MethodName} {bytes : ByteArray} {maxL : Nat} {ret : Option FieldType}
    (hown : s.vm.findClass own = some m.cls) (hlink : (Cond.methodLink own index y).before args s = true) (hinst : (Cond.instanceMethod y).before args s = true) (hsel : (Cond.selects C y y).before args s = true)
    (hcode : (Cond.code y bytes maxL ret).before args s = true) (hy : y.cls ≠ "java/lang/invoke/MethodHandle" ∧ y.cls ≠ "java/lang/invoke/VarHandle")
    {W9 : Nat} {Pre : Pt → Array Value → Prop} {Post : Pt → Array Value → Option Value → Pt → Prop} {PostX : Pt → Array Value → Addr → Pt → Prop} (hK : vx_Back l R p e below s args y 3 W9 Pre Post PostX)
    {b : Addr} {cellB : Cell} (hcell : T.heap[b]? = some cellB) (hobj : cellB.vm.isStatics = false) (hcls : s.vm.findClass C = some cellB.cls)
    {g : JFrame} (hg : g.method = m) (hsize : g.locals.size = c.maxLocals) {argsL rest : List Value} (hlen : ∀ sig, parseMethodDescriptor y.desc = some sig → argsL.length = sig.parameters.length)
    (hstack : g.stack = argsL.reverse ++ .ref b :: rest) (hW : 2 * g.monitorRoom + (rest.map fun v => v.category).sum ≤ W9) (hdg : decode c.code g.pc = .ok (.invokevirtual index, 3))
    (hpre : ∀ vm₁, s.WarmedH vm₁ → Pre ⟨T.setVm vm₁, locs, cells, slots⟩ (Value.ref b :: argsL).toArray) :
    (∃ (v : Option Value) (vm₁ : Vm) (B : Pt), s.WarmedH vm₁ ∧ Stand p l e R s m args below meth c B.U B.locs B.cells B.slots ∧ Post ⟨T.setVm vm₁, locs, cells, slots⟩ (Value.ref b :: argsL).toArray v B ∧
      ∀ target, Steps p.tables e below (B.U.setTop { g with pc := g.pc + 3, stack := v.toList ++ rest }) target → Steps p.tables e below (T.setTop g) target) ∨
    (∃ (q : Addr) (vm₁ : Vm) (B : Pt), s.WarmedH vm₁ ∧ Stand p l e R s m args below meth c B.U B.locs B.cells B.slots ∧ PostX ⟨T.setVm vm₁, locs, cells, slots⟩ (Value.ref b :: argsL).toArray q B ∧
      Steps p.tables e below (T.setTop g) ((B.U.setTop { g with stack := rest }).pushFrame (.throwing q))) := by
  obtain ⟨mk, methM, hnamed, hmethM, hstM, habM⟩ := Cond.instanceMethod_spec hinst
  obtain ⟨methM', cM, hmethM', -, -, -, -, -, -, hsigM⟩ := Cond.code_spec hnamed hcode
  cases hmethM.symm.trans hmethM'
  obtain ⟨c2, r2, m2, q1, q2, q3, q4, kP, hkP, hkPi⟩ := Cond.selects_spec hsel
  cases hcls.symm.trans q1
  cases (State.methodFound?_of_named hnamed hy).symm.trans q2
  cases hnamed.symm.trans q3
  have hselP : selectMethod e.platform s.vm cellB.cls mk = .method mk := by rw [Launch.admits_selectMethod X.admits]; exact q4
  obtain ⟨vm₁, X₁, hstep₁⟩ := X.invokevirtual hexec hown hlink hnamed hmethM hstM hkP hkPi hy (a := b) (cell := cellB) hcell
    (fun z h => by rw [h] at hobj; cases hobj) hselP hmethM habM hkP hkPi (g := g) hg (argsL := argsL) (rest := rest) (hlen _ hsigM) hstack hdg
  rcases hK m meth c ⟨T.setVm vm₁, locs, cells, slots⟩ { g with stack := rest } (.invokevirtual index) mk (Value.ref b :: argsL).toArray X₁ hg hsize hdg hW (X₁.named hnamed) (hpre vm₁ X₁.warmed) with ⟨v, B, X', hpost, hsteps⟩ | ⟨q, B, X', hpost, hsteps⟩
  · exact Or.inl ⟨v, vm₁, B, X₁.warmed, X', hpost, fun target h => hstep₁ _ fun acts => by rw [doInvoke_state]; exact hsteps.trans h⟩
  · exact Or.inr ⟨q, vm₁, B, X₁.warmed, X', hpost, hstep₁ _ fun acts => by rw [doInvoke_state]; exact hsteps⟩
theorem vx_callS (X : Stand p l e R s m args below meth c T locs cells slots) (hexec : p.tables.exec = Jvm.exec) {own : String} {index : Nat} {y : MethodName} {bytes : ByteArray} {maxL : Nat} {ret : Option FieldType}
    (hown : s.vm.findClass own = some m.cls) (hlink : (Cond.methodLink own index y).before args s = true) (hstat : (Cond.static y).before args s = true) (hinit : (Cond.initialized y.cls).before args s = true)
    (hcode : (Cond.code y bytes maxL ret).before args s = true) (hy : y.cls ≠ "java/lang/invoke/MethodHandle" ∧ y.cls ≠ "java/lang/invoke/VarHandle")
    {W9 : Nat} {Pre : Pt → Array Value → Prop} {Post : Pt → Array Value → Option Value → Pt → Prop} {PostX : Pt → Array Value → Addr → Pt → Prop} (hK : vx_Back l R p e below s args y 3 W9 Pre Post PostX)
    {g : JFrame} (hg : g.method = m) (hsize : g.locals.size = c.maxLocals) {argsL rest : List Value} (hlen : ∀ sig, parseMethodDescriptor y.desc = some sig → argsL.length = sig.parameters.length)
    (hstack : g.stack = argsL.reverse ++ rest) (hW : 2 * g.monitorRoom + (rest.map fun v => v.category).sum ≤ W9) (hdg : decode c.code g.pc = .ok (.invokestatic index, 3))
    (hpre : ∀ vm₁, s.WarmedH vm₁ → Pre ⟨T.setVm vm₁, locs, cells, slots⟩ argsL.toArray) :
    (∃ (v : Option Value) (vm₁ : Vm) (B : Pt), s.WarmedH vm₁ ∧ Stand p l e R s m args below meth c B.U B.locs B.cells B.slots ∧ Post ⟨T.setVm vm₁, locs, cells, slots⟩ argsL.toArray v B ∧
      ∀ target, Steps p.tables e below (B.U.setTop { g with pc := g.pc + 3, stack := v.toList ++ rest }) target → Steps p.tables e below (T.setTop g) target) ∨
    (∃ (q : Addr) (vm₁ : Vm) (B : Pt), s.WarmedH vm₁ ∧ Stand p l e R s m args below meth c B.U B.locs B.cells B.slots ∧ PostX ⟨T.setVm vm₁, locs, cells, slots⟩ argsL.toArray q B ∧
      Steps p.tables e below (T.setTop g) ((B.U.setTop { g with stack := rest }).pushFrame (.throwing q))) := by
  obtain ⟨mk, hnamed⟩ := Cond.code_named hcode
  obtain ⟨methM, cM, hmethM, -, -, -, -, -, -, hsigM⟩ := Cond.code_spec hnamed hcode
  have hstatic : methM.isStatic = true := Cond.static_spec hnamed hmethM hstat
  obtain ⟨kP, hkP, -⟩ := className_of_methodNamed hnamed
  have hinitP : kP.init = .initialized := Cond.initialized_spec (findClass_of_methodNamed hnamed) hkP hinit
  obtain ⟨vm₁, X₁, hstep₁⟩ := X.invokestatic hexec hown hlink hnamed hmethM hstatic hkP hinitP hy (g := g) hg (argsL := argsL) (rest := rest) (hlen _ hsigM) hstack hdg
  rcases hK m meth c ⟨T.setVm vm₁, locs, cells, slots⟩ { g with stack := rest } (.invokestatic index) mk argsL.toArray X₁ hg hsize hdg hW (X₁.named hnamed) (hpre vm₁ X₁.warmed) with ⟨v, B, X', hpost, hsteps⟩ | ⟨q, B, X', hpost, hsteps⟩
  · exact Or.inl ⟨v, vm₁, B, X₁.warmed, X', hpost, fun target h => hstep₁ _ fun acts => by rw [doInvoke_state]; exact hsteps.trans h⟩
  · exact Or.inr ⟨q, vm₁, B, X₁.warmed, X', hpost, hstep₁ _ fun acts => by rw [doInvoke_state]; exact hsteps⟩
end Calls
theorem vx_cls {s : State} {T : State} {vm₁ : Vm} {E : String} {k : ClassId} (hW : s.WarmedH vm₁) (h : (T.setVm vm₁).vm.findClass E = some k) : s.vm.findClass E = some k := by
  have h1 : vm₁.findClass E = some k := h
  rw [hW.alike.findClass] at h1
  exact h1
/-- the method's frame g, with q thrown over it -/
def vx_W (p : Program) (l : Launch) (e : Env) (R : Room) (s : State) (m : MethodId) (args : Array Value) (below : List Frame) (meth : Method) (c : Code) (H : Heap) (locs : List Loc) (cells slots : Nat) (Q : State → Prop) (g : JFrame) (q : Addr) : Prop :=
  ∀ T : State, T.heap = H → Stand p l e R s m args below meth c T locs cells slots → ∃ t, Steps p.tables e below ((T.setTop g).pushFrame (.throwing q)) t ∧ Q t
def vx_Run (p : Program) (l : Launch) (e : Env) (R : Room) (s : State) (m : MethodId) (args : Array Value) (below : List Frame) (meth : Method) (c : Code) (H : Heap) (locs : List Loc) (cells slots mc ms : Nat) (g : JFrame) (rest : List Value) (Qa : State → Outcome → State → Prop) (XC : String → State → State → Prop) (free : Addr → Prop) : Prop :=
  ∀ T : State, T.heap = H → Stand p l e R s m args below meth c T locs cells slots →
    (∃ (v : Option Value) (st₀ t T' : State) (L : List Loc), st₀.heap = H ∧ Stand p l e R s m args below meth c T' (locs ++ L) (cells + mc) (slots + ms) ∧ (∀ q ∈ L, free q.base) ∧ T'.heap = t.heap ∧ T'.vm = t.vm ∧ Qa st₀ (.returned v) t ∧
      Goes p e below T g T' { g with pc := g.pc + 3, stack := v.toList ++ rest }) ∨
    (∃ (q : Addr) (st₀ t T' : State) (L : List Loc) (E : String) (ce : Cell), st₀.heap = H ∧ Stand p l e R s m args below meth c T' (locs ++ L) (cells + mc) (slots + ms) ∧ (∀ z ∈ L, free z.base) ∧ T'.heap = t.heap ∧ T'.vm = t.vm ∧ XC E st₀ t ∧ t.heap[q]? = some ce ∧ ce.vm = .none ∧ s.vm.findClass E = some ce.cls ∧
      Steps p.tables e below (T.setTop g) ((T'.setTop { g with stack := rest }).pushFrame (.throwing q)))
def vx_X {S : Type} (px : S → Prop) (B : String → S → State → Prop) (A : Nat → Prop) : String → State → State → Prop := fun E st t => ∃ u : S, px u ∧ B E u t ∧ va_F A st t
section Runs
variable {p : Program} {l : Launch} {e : Env} {R : Room} {s : State} {m : MethodId} {args : Array Value} {below : List Frame} {meth : Method} {c : Code} {H : Heap} {locs : List Loc} {cells slots : Nat}
variable {y : MethodName} {bytes cc : ByteArray} {maxL nL mc ms n index : Nat} {ret : Option FieldType} {ws : List Cond} {rm : Room} {Pc : Array Value → State → Prop} {Qc : Array Value → State → Outcome → State → Prop} {XC : String → State → State → Prop} {free : Addr → Prop} {Ts : List Cond} {own C : String} {b : Addr} {As rest : List Value} {g : JFrame}
theorem vx_callBack (cb : CallB R s args own index y bytes maxL ret ws rm mc ms n) (hM : vx_Met l y ws rm Pc Qc XC mc ms free) (hbl : FrameBlind Pc) : vx_Back l R p e below s args y 3 8 (PreOf R mc ms Pc) (PostOf Qc mc ms free) (vx_Post XC mc ms free) := by
  obtain ⟨hrc, hrs, hfr, hlo, hws, hcw, -, hini, -⟩ := cb
  exact vx_back (bytes := bytes) (maxL := maxL) (ret := ret) hM hbl hrc hrs hfr hlo hws hcw (fun a' U hW => word_at hW (Or.inl (by first | rfl | simp [Cond.onTables, Cond.keeps, Cond.steady])) hini)
theorem vx_runV (S : CallFix p m c cc nL s args Ts own) (hM : vx_Met l y ws rm Pc Qc XC mc ms free) (cw : CallW R s args own C index y bytes maxL ret ws rm mc ms n) (hp : PreV s H C b Pc As)
    (hg : g.method = m) (hn : As.length = n) (hsize : g.locals.size = nL) (hstack : g.stack = As.reverse ++ .ref b :: rest) (hW : 2 * g.monitorRoom + (rest.map fun v => v.category).sum ≤ 8) (hdg : decode cc g.pc = .ok (.invokevirtual index, 3)) (hf : cells + mc ≤ R.cells ∧ slots + ms ≤ R.slots) :
    vx_Run p l e R s m args below meth c H locs cells slots mc ms g rest (Qc (Value.ref b :: As).toArray) XC free := by
  have hK : vx_Back l R p e below s args y 3 8 (PreOf R mc ms Pc) (PostOf Qc mc ms free) (vx_Post XC mc ms free) := vx_callBack cw.1 hM hp.1
  obtain ⟨⟨-, -, -, -, -, -, hcode, -, hy, hlen, hl⟩, hin, hse⟩ := cw
  obtain ⟨hx, hb, hml, ho, -⟩ := S
  obtain ⟨-, ⟨cellB, hcB, hoB, hclB⟩, hPc⟩ := hp
  intro T hT X
  rcases vx_callV X hx (C := C) (bytes := bytes) (maxL := maxL) (ret := ret) ho hl hin hse hcode hy hK (by rw [hT]; exact hcB) hoB hclB hg (hsize.trans hml.symm) (argsL := As) (rest := rest) (fun sig h => hn.trans (hlen sig h)) hstack hW (by rw [hb]; exact hdg)
    (fun vm₁ hW₁ => ⟨hf.1, hf.2, hPc (T.setVm vm₁) hT hW₁⟩) with ⟨v, vm₁, ⟨U', l2, c2, s2⟩, hW₁, X', ⟨g', mk, t, L, e1, e2, hq, h1, hL, h2, h3⟩, st⟩ | ⟨q, vm₁, ⟨U', l2, c2, s2⟩, hW₁, X', ⟨g', mk, t, L, E, ce, e1, e2, hq, hce, hcv, hcl, h1, hL, h2, h3⟩, st⟩
  · dsimp only [Pt.U, Pt.locs, Pt.cells, Pt.slots] at X' e1 e2 h1 h2 h3 st
    subst h1; subst h2; subst h3
    exact Or.inl ⟨v, (T.setVm vm₁).calling g' mk (Value.ref b :: As).toArray, t, U', L, hT, X', hL, e1, e2, hq, st⟩
  · dsimp only [Pt.U, Pt.locs, Pt.cells, Pt.slots] at X' e1 e2 h1 h2 h3 st hcl
    subst h1; subst h2; subst h3
    exact Or.inr ⟨q, (T.setVm vm₁).calling g' mk (Value.ref b :: As).toArray, t, U', L, E, ce, hT, X', hL, e1, e2, hq, hce, hcv, vx_cls hW₁ hcl, st⟩
theorem vx_runS (S : CallFix p m c cc nL s args Ts own) (hM : vx_Met l y ws rm Pc Qc XC mc ms free) (cw : CallB R s args own index y bytes maxL ret ws rm mc ms n ∧ (Cond.static y).before args s = true) (hp : PreS s H Pc As)
    (hg : g.method = m) (hn : As.length = n) (hsize : g.locals.size = nL) (hstack : g.stack = As.reverse ++ rest) (hW : 2 * g.monitorRoom + (rest.map fun v => v.category).sum ≤ 8) (hdg : decode cc g.pc = .ok (.invokestatic index, 3)) (hf : cells + mc ≤ R.cells ∧ slots + ms ≤ R.slots) :
    vx_Run p l e R s m args below meth c H locs cells slots mc ms g rest (Qc As.toArray) XC free := by
  have hK : vx_Back l R p e below s args y 3 8 (PreOf R mc ms Pc) (PostOf Qc mc ms free) (vx_Post XC mc ms free) := vx_callBack cw.1 hM hp.1
  obtain ⟨⟨-, -, -, -, -, -, hcode, hini, hy, hlen, hl⟩, hstt⟩ := cw
  obtain ⟨hx, hb, hml, ho, -⟩ := S
  intro T hT X
  rcases vx_callS X hx (bytes := bytes) (maxL := maxL) (ret := ret) ho hl hstt hini hcode hy hK hg (hsize.trans hml.symm) (argsL := As) (rest := rest) (fun sig h => hn.trans (hlen sig h)) hstack hW (by rw [hb]; exact hdg)
    (fun vm₁ hW₁ => ⟨hf.1, hf.2, hp.2 (T.setVm vm₁) hT hW₁⟩) with ⟨v, vm₁, ⟨U', l2, c2, s2⟩, hW₁, X', ⟨g', mk, t, L, e1, e2, hq, h1, hL, h2, h3⟩, st⟩ | ⟨q, vm₁, ⟨U', l2, c2, s2⟩, hW₁, X', ⟨g', mk, t, L, E, ce, e1, e2, hq, hce, hcv, hcl, h1, hL, h2, h3⟩, st⟩
  · dsimp only [Pt.U, Pt.locs, Pt.cells, Pt.slots] at X' e1 e2 h1 h2 h3 st
    subst h1; subst h2; subst h3
    exact Or.inl ⟨v, (T.setVm vm₁).calling g' mk As.toArray, t, U', L, hT, X', hL, e1, e2, hq, st⟩
  · dsimp only [Pt.U, Pt.locs, Pt.cells, Pt.slots] at X' e1 e2 h1 h2 h3 st hcl
    subst h1; subst h2; subst h3
    exact Or.inr ⟨q, (T.setVm vm₁).calling g' mk As.toArray, t, U', L, E, ce, hT, X', hL, e1, e2, hq, hce, hcv, vx_cls hW₁ hcl, st⟩
end Runs
section Rows
variable {p : Program} {l : Launch} {e : Env} {R : Room} {s : State} {m : MethodId} {args : Array Value} {below : List Frame} {meth : Method} {c : Code} {H : Heap} {locs : List Loc} {cells slots : Nat} {Q : State → Prop}
variable {mc ms : Nat} {free : Addr → Prop} {A0 A1 : Nat → Prop} {H0 : Heap} {a : Array Value} {pc : Nat} {ls : Array Slot} {st0 rest : List Value}
theorem vx_keep {st₀ t T' : State} {L : List Loc} (h0 : st₀.heap = H) (e1 : T'.heap = t.heap) (hS : va_S A0 H0 H locs) (hA : ∀ q, q < H.size → A1 q → A0 q) (hf : ∀ q, free q → A0 q) (hL : ∀ q ∈ L, free q.base) (hF : va_F A1 st₀ t) :
    H.size ≤ T'.heap.size ∧ (∀ q : Nat, q < H.size → ¬ A1 q → T'.heap[q]? = H[q]?) ∧ va_S A0 H0 T'.heap (locs ++ L) := by
  obtain ⟨hz, hk⟩ := hF
  rw [h0] at hz hk
  exact ⟨by rw [e1]; exact hz, fun q h1 h2 => by rw [e1]; exact hk q h1 h2,
    ⟨Nat.le_trans hS.1 (by rw [e1]; exact hz), fun q h1 h2 => by rw [e1, hk q (Nat.lt_of_lt_of_le h1 hS.1) (fun z => h2 (hA q (Nat.lt_of_lt_of_le h1 hS.1) z))]; exact hS.2.1 q h1 h2, fun q hq => by
      rcases List.mem_append.mp hq with h | h
      · exact hS.2.2 q h
      · exact hf _ (hL q h)⟩⟩
theorem vx_calli {S SX : Type} {post : Int32 → S → Prop} {px : SX → Prop} {B : S → State → Prop} {BX : String → SX → State → Prop} {AX : Nat → Prop} (hr : vx_Run p l e R s m args below meth c H locs cells slots mc ms (F0 m pc ls st0) rest (va_Qi post B A1 a) (vx_X px BX AX) free) (hS : va_S A0 H0 H locs) (hA : ∀ q, q < H.size → A1 q → A0 q) (hf : ∀ q, free q → A0 q) (hAX : ∀ q, q < H.size → AX q → A0 q)
    (kx : ∀ (E : String) (ce : Cell) (q9 : Addr) (u : SX) (t : State) (H1 : Heap) (locs1 : List Loc), t.heap = H1 → s.vm.Alike t.vm → px u → BX E u t → H.size ≤ H1.size → (∀ q : Nat, q < H.size → ¬ AX q → H1[q]? = H[q]?) → va_S A0 H0 H1 locs1 → H1[q9]? = some ce → ce.vm = .none → s.vm.findClass E = some ce.cls → vx_W p l e R s m args below meth c H1 locs1 (cells + mc) (slots + ms) Q (F0 m pc ls rest) q9)
    (kk : ∀ (r : Int32) (u : S) (t : State) (H1 : Heap) (locs1 : List Loc), t.heap = H1 → s.vm.Alike t.vm → post r u → B u t → H.size ≤ H1.size → (∀ q : Nat, q < H.size → ¬ A1 q → H1[q]? = H[q]?) → va_S A0 H0 H1 locs1 → W p l e R s m args below meth c H1 locs1 (cells + mc) (slots + ms) Q (F0 m (pc + 3) ls (.int r :: rest))) : W p l e R s m args below meth c H locs cells slots Q (F0 m pc ls st0) := by
  intro T hT X
  rcases hr T hT X with ⟨v, st₀, t, T', L, h0, X', hL, e1, e2, ⟨⟨r, u, hv, hp, hb⟩, hF⟩, st⟩ | ⟨q, st₀, t, T', L, E, ce, h0, X', hL, e1, e2, ⟨u, hp, hb, hF⟩, hce, hcv, hcl, st⟩
  · cases hv
    obtain ⟨k1, k2, k3⟩ := vx_keep h0 e1 hS hA hf hL hF
    obtain ⟨t2, a1, b1⟩ := kk r u t T'.heap (locs ++ L) e1.symm (by rw [← e2]; exact X'.warmed.alike) hp hb k1 k2 k3 T' rfl X'
    exact ⟨t2, st t2 a1, b1⟩
  · obtain ⟨k1, k2, k3⟩ := vx_keep h0 e1 hS hAX hf hL hF
    obtain ⟨t2, a1, b1⟩ := kx E ce q u t T'.heap (locs ++ L) e1.symm (by rw [← e2]; exact X'.warmed.alike) hp hb k1 k2 k3 (by rw [e1]; exact hce) hcv hcl T' rfl X'
    exact ⟨t2, st.trans a1, b1⟩
theorem vx_calll {S SX : Type} {post : Int64 → S → Prop} {px : SX → Prop} {B : S → State → Prop} {BX : String → SX → State → Prop} {AX : Nat → Prop} (hr : vx_Run p l e R s m args below meth c H locs cells slots mc ms (F0 m pc ls st0) rest (va_Ql post B A1 a) (vx_X px BX AX) free) (hS : va_S A0 H0 H locs) (hA : ∀ q, q < H.size → A1 q → A0 q) (hf : ∀ q, free q → A0 q) (hAX : ∀ q, q < H.size → AX q → A0 q)
    (kx : ∀ (E : String) (ce : Cell) (q9 : Addr) (u : SX) (t : State) (H1 : Heap) (locs1 : List Loc), t.heap = H1 → s.vm.Alike t.vm → px u → BX E u t → H.size ≤ H1.size → (∀ q : Nat, q < H.size → ¬ AX q → H1[q]? = H[q]?) → va_S A0 H0 H1 locs1 → H1[q9]? = some ce → ce.vm = .none → s.vm.findClass E = some ce.cls → vx_W p l e R s m args below meth c H1 locs1 (cells + mc) (slots + ms) Q (F0 m pc ls rest) q9)
    (kk : ∀ (r : Int64) (u : S) (t : State) (H1 : Heap) (locs1 : List Loc), t.heap = H1 → s.vm.Alike t.vm → post r u → B u t → H.size ≤ H1.size → (∀ q : Nat, q < H.size → ¬ A1 q → H1[q]? = H[q]?) → va_S A0 H0 H1 locs1 → W p l e R s m args below meth c H1 locs1 (cells + mc) (slots + ms) Q (F0 m (pc + 3) ls (.long r :: rest))) : W p l e R s m args below meth c H locs cells slots Q (F0 m pc ls st0) := by
  intro T hT X
  rcases hr T hT X with ⟨v, st₀, t, T', L, h0, X', hL, e1, e2, ⟨⟨r, u, hv, hp, hb⟩, hF⟩, st⟩ | ⟨q, st₀, t, T', L, E, ce, h0, X', hL, e1, e2, ⟨u, hp, hb, hF⟩, hce, hcv, hcl, st⟩
  · cases hv
    obtain ⟨k1, k2, k3⟩ := vx_keep h0 e1 hS hA hf hL hF
    obtain ⟨t2, a1, b1⟩ := kk r u t T'.heap (locs ++ L) e1.symm (by rw [← e2]; exact X'.warmed.alike) hp hb k1 k2 k3 T' rfl X'
    exact ⟨t2, st t2 a1, b1⟩
  · obtain ⟨k1, k2, k3⟩ := vx_keep h0 e1 hS hAX hf hL hF
    obtain ⟨t2, a1, b1⟩ := kx E ce q u t T'.heap (locs ++ L) e1.symm (by rw [← e2]; exact X'.warmed.alike) hp hb k1 k2 k3 (by rw [e1]; exact hce) hcv hcl T' rfl X'
    exact ⟨t2, st.trans a1, b1⟩
theorem vx_callf {S SX : Type} {post : UInt32 → S → Prop} {px : SX → Prop} {B : S → State → Prop} {BX : String → SX → State → Prop} {AX : Nat → Prop} (hr : vx_Run p l e R s m args below meth c H locs cells slots mc ms (F0 m pc ls st0) rest (va_Qf post B A1 a) (vx_X px BX AX) free) (hS : va_S A0 H0 H locs) (hA : ∀ q, q < H.size → A1 q → A0 q) (hf : ∀ q, free q → A0 q) (hAX : ∀ q, q < H.size → AX q → A0 q)
    (kx : ∀ (E : String) (ce : Cell) (q9 : Addr) (u : SX) (t : State) (H1 : Heap) (locs1 : List Loc), t.heap = H1 → s.vm.Alike t.vm → px u → BX E u t → H.size ≤ H1.size → (∀ q : Nat, q < H.size → ¬ AX q → H1[q]? = H[q]?) → va_S A0 H0 H1 locs1 → H1[q9]? = some ce → ce.vm = .none → s.vm.findClass E = some ce.cls → vx_W p l e R s m args below meth c H1 locs1 (cells + mc) (slots + ms) Q (F0 m pc ls rest) q9)
    (kk : ∀ (r : UInt32) (u : S) (t : State) (H1 : Heap) (locs1 : List Loc), t.heap = H1 → s.vm.Alike t.vm → post r u → B u t → H.size ≤ H1.size → (∀ q : Nat, q < H.size → ¬ A1 q → H1[q]? = H[q]?) → va_S A0 H0 H1 locs1 → W p l e R s m args below meth c H1 locs1 (cells + mc) (slots + ms) Q (F0 m (pc + 3) ls (.float r :: rest))) : W p l e R s m args below meth c H locs cells slots Q (F0 m pc ls st0) := by
  intro T hT X
  rcases hr T hT X with ⟨v, st₀, t, T', L, h0, X', hL, e1, e2, ⟨⟨r, u, hv, hp, hb⟩, hF⟩, st⟩ | ⟨q, st₀, t, T', L, E, ce, h0, X', hL, e1, e2, ⟨u, hp, hb, hF⟩, hce, hcv, hcl, st⟩
  · cases hv
    obtain ⟨k1, k2, k3⟩ := vx_keep h0 e1 hS hA hf hL hF
    obtain ⟨t2, a1, b1⟩ := kk r u t T'.heap (locs ++ L) e1.symm (by rw [← e2]; exact X'.warmed.alike) hp hb k1 k2 k3 T' rfl X'
    exact ⟨t2, st t2 a1, b1⟩
  · obtain ⟨k1, k2, k3⟩ := vx_keep h0 e1 hS hAX hf hL hF
    obtain ⟨t2, a1, b1⟩ := kx E ce q u t T'.heap (locs ++ L) e1.symm (by rw [← e2]; exact X'.warmed.alike) hp hb k1 k2 k3 (by rw [e1]; exact hce) hcv hcl T' rfl X'
    exact ⟨t2, st.trans a1, b1⟩
theorem vx_calld {S SX : Type} {post : UInt64 → S → Prop} {px : SX → Prop} {B : S → State → Prop} {BX : String → SX → State → Prop} {AX : Nat → Prop} (hr : vx_Run p l e R s m args below meth c H locs cells slots mc ms (F0 m pc ls st0) rest (va_Qd post B A1 a) (vx_X px BX AX) free) (hS : va_S A0 H0 H locs) (hA : ∀ q, q < H.size → A1 q → A0 q) (hf : ∀ q, free q → A0 q) (hAX : ∀ q, q < H.size → AX q → A0 q)
    (kx : ∀ (E : String) (ce : Cell) (q9 : Addr) (u : SX) (t : State) (H1 : Heap) (locs1 : List Loc), t.heap = H1 → s.vm.Alike t.vm → px u → BX E u t → H.size ≤ H1.size → (∀ q : Nat, q < H.size → ¬ AX q → H1[q]? = H[q]?) → va_S A0 H0 H1 locs1 → H1[q9]? = some ce → ce.vm = .none → s.vm.findClass E = some ce.cls → vx_W p l e R s m args below meth c H1 locs1 (cells + mc) (slots + ms) Q (F0 m pc ls rest) q9)
    (kk : ∀ (r : UInt64) (u : S) (t : State) (H1 : Heap) (locs1 : List Loc), t.heap = H1 → s.vm.Alike t.vm → post r u → B u t → H.size ≤ H1.size → (∀ q : Nat, q < H.size → ¬ A1 q → H1[q]? = H[q]?) → va_S A0 H0 H1 locs1 → W p l e R s m args below meth c H1 locs1 (cells + mc) (slots + ms) Q (F0 m (pc + 3) ls (.double r :: rest))) : W p l e R s m args below meth c H locs cells slots Q (F0 m pc ls st0) := by
  intro T hT X
  rcases hr T hT X with ⟨v, st₀, t, T', L, h0, X', hL, e1, e2, ⟨⟨r, u, hv, hp, hb⟩, hF⟩, st⟩ | ⟨q, st₀, t, T', L, E, ce, h0, X', hL, e1, e2, ⟨u, hp, hb, hF⟩, hce, hcv, hcl, st⟩
  · cases hv
    obtain ⟨k1, k2, k3⟩ := vx_keep h0 e1 hS hA hf hL hF
    obtain ⟨t2, a1, b1⟩ := kk r u t T'.heap (locs ++ L) e1.symm (by rw [← e2]; exact X'.warmed.alike) hp hb k1 k2 k3 T' rfl X'
    exact ⟨t2, st t2 a1, b1⟩
  · obtain ⟨k1, k2, k3⟩ := vx_keep h0 e1 hS hAX hf hL hF
    obtain ⟨t2, a1, b1⟩ := kx E ce q u t T'.heap (locs ++ L) e1.symm (by rw [← e2]; exact X'.warmed.alike) hp hb k1 k2 k3 (by rw [e1]; exact hce) hcv hcl T' rfl X'
    exact ⟨t2, st.trans a1, b1⟩
theorem vx_callv {S SX : Type} {post : S → Prop} {px : SX → Prop} {B : S → State → Prop} {BX : String → SX → State → Prop} {AX : Nat → Prop} (hr : vx_Run p l e R s m args below meth c H locs cells slots mc ms (F0 m pc ls st0) rest (va_Qv post B A1 a) (vx_X px BX AX) free) (hS : va_S A0 H0 H locs) (hA : ∀ q, q < H.size → A1 q → A0 q) (hf : ∀ q, free q → A0 q) (hAX : ∀ q, q < H.size → AX q → A0 q)
    (kx : ∀ (E : String) (ce : Cell) (q9 : Addr) (u : SX) (t : State) (H1 : Heap) (locs1 : List Loc), t.heap = H1 → s.vm.Alike t.vm → px u → BX E u t → H.size ≤ H1.size → (∀ q : Nat, q < H.size → ¬ AX q → H1[q]? = H[q]?) → va_S A0 H0 H1 locs1 → H1[q9]? = some ce → ce.vm = .none → s.vm.findClass E = some ce.cls → vx_W p l e R s m args below meth c H1 locs1 (cells + mc) (slots + ms) Q (F0 m pc ls rest) q9)
    (kk : ∀ (u : S) (t : State) (H1 : Heap) (locs1 : List Loc), t.heap = H1 → s.vm.Alike t.vm → post u → B u t → H.size ≤ H1.size → (∀ q : Nat, q < H.size → ¬ A1 q → H1[q]? = H[q]?) → va_S A0 H0 H1 locs1 → W p l e R s m args below meth c H1 locs1 (cells + mc) (slots + ms) Q (F0 m (pc + 3) ls (rest))) : W p l e R s m args below meth c H locs cells slots Q (F0 m pc ls st0) := by
  intro T hT X
  rcases hr T hT X with ⟨v, st₀, t, T', L, h0, X', hL, e1, e2, ⟨⟨u, hv, hp, hb⟩, hF⟩, st⟩ | ⟨q, st₀, t, T', L, E, ce, h0, X', hL, e1, e2, ⟨u, hp, hb, hF⟩, hce, hcv, hcl, st⟩
  · cases hv
    obtain ⟨k1, k2, k3⟩ := vx_keep h0 e1 hS hA hf hL hF
    obtain ⟨t2, a1, b1⟩ := kk u t T'.heap (locs ++ L) e1.symm (by rw [← e2]; exact X'.warmed.alike) hp hb k1 k2 k3 T' rfl X'
    exact ⟨t2, st t2 a1, b1⟩
  · obtain ⟨k1, k2, k3⟩ := vx_keep h0 e1 hS hAX hf hL hF
    obtain ⟨t2, a1, b1⟩ := kx E ce q u t T'.heap (locs ++ L) e1.symm (by rw [← e2]; exact X'.warmed.alike) hp hb k1 k2 k3 (by rw [e1]; exact hce) hcv hcl T' rfl X'
    exact ⟨t2, st.trans a1, b1⟩
/-- caught by the row x of this method's table; the rows ahead don't take it -/
theorem vx_catch {own name : String} {E : String} {ce : Cell} {q : Addr} (hown : s.vm.findClass own = some m.cls) (pre : List ExceptionTableEntry) (x : ExceptionTableEntry) (suf : List ExceptionTableEntry) (hsplit : c.exceptionTable.toList = pre ++ x :: suf)
    (hpass : ∀ z ∈ pre, covers z pc = false ∨ (z.catchType ≠ 0 ∧ ∃ nm : String, (Cond.classLink own z.catchType nm).before args s = true ∧ va_Nc E nm s)) (hx : covers x pc = true) (h0 : x.catchType ≠ 0)
    (hlink : (Cond.classLink own x.catchType name).before args s = true) (hcast : (Cond.castable E name).before args s = true) (hcell : H[q]? = some ce) (hv : ce.vm = .none) (hcl : s.vm.findClass E = some ce.cls)
    (kk : W p l e R s m args below meth c H locs cells slots Q (F0 m x.handlerPc ls [.ref q])) : vx_W p l e R s m args below meth c H locs cells slots Q (F0 m pc ls rest) q := by
  intro T hT X
  have hpl : e.platform.magicAccessors = ({} : Platform).magicAccessors := by rw [X.admits.platform]
  obtain ⟨c3, c4, hc3, hc4, hasg⟩ := Cond.castable_spec hcast
  cases Option.some.inj (hc3.symm.trans hcl)
  obtain ⟨c5, hc5, hcl5⟩ := Cond.classLink_spec hown hlink e.platform hpl
  cases Option.some.inj (hc4.symm.trans hc5)
  obtain ⟨vm', X', st⟩ := X.thenCaughtThrough q (g := F0 m pc ls rest) rfl (Steps.refl _) (by rw [hT]; exact hcell) (by rw [hv]; rfl) (by obtain ⟨k9, h9, -⟩ := Vm.findClass_spec hcl; exact ⟨k9, h9⟩) pre x suf hsplit
    (fun z hz => by
      rcases hpass z hz with h | ⟨hz0, nm, hl1, hn1⟩
      · exact Or.inl h
      · obtain ⟨c6, hc6, hcl6⟩ := Cond.classLink_spec hown hl1 e.platform hpl
        obtain ⟨a8, b8, h1, h2, h3⟩ := hn1
        cases Option.some.inj (h1.symm.trans hcl)
        cases Option.some.inj (h2.symm.trans hc6)
        exact Or.inr ⟨hz0, _, hcl6, h3⟩) hx (Or.inr ⟨h0, c4, hcl5, hasg⟩)
  obtain ⟨t, a1, b1⟩ := kk (T.setVm vm') hT X'
  exact ⟨t, st.trans a1, b1⟩
end Rows
section Ends
variable {p : Program} {l : Launch} {e : Env} {R : Room} {s : State} {m : MethodId} {args : Array Value} {below : List Frame} {meth : Method} {c : Code} {H : Heap} {locs : List Loc} {cells slots : Nat} {Q : State → Prop}
variable {mc ms : Nat} {free : Addr → Prop} {A0 A1 : Nat → Prop} {H0 : Heap} {a : Array Value} {ls : Array Slot} {st0 rest : List Value}
variable {Qc : Array Value → State → Outcome → State → Prop} {XC : String → State → State → Prop}
/-- what a body that may throw owes at its end -/
def vx_MQ (below : List Frame) (Qc : Array Value → State → Outcome → State → Prop) (XC : String → State → State → Prop) (a : Array Value) (s : State) (mc ms : Nat) (free : Addr → Prop) : State → Prop := fun t =>
  ∃ o, t.status = .running ∧ Ended t below o ∧ vx_Q Qc XC mc ms free a s o t
theorem vx_ret {g : JFrame} {mc ms : Nat} (k : W p l e R s m args below meth c H locs cells slots (MQ below Qc args s mc ms free) g) : W p l e R s m args below meth c H locs cells slots (vx_MQ below Qc XC args s mc ms free) g := by
  intro T hT X
  obtain ⟨t, a1, o, b1, b2, b3, b4⟩ := k T hT X
  exact ⟨t, a1, o, b1, b2, Or.inl ⟨b3, b4⟩⟩
/-- not caught here: it goes on to the caller -/
theorem vx_widen {g : JFrame} {q : Addr} {k n : Nat} (h1 : cells ≤ k) (h2 : slots ≤ n) (kk : vx_W p l e R s m args below meth c H locs k n Q g q) : vx_W p l e R s m args below meth c H locs cells slots Q g q := fun T hT X => kk T hT (stand_widen X h1 h2)
theorem vx_out {pc : Nat} {E : String} {ce : Cell} {q : Addr} {mc ms : Nat} (hout : ∀ x ∈ c.exceptionTable.toList, covers x pc = false) (hlocks : meth.locks = false) (hcell : H[q]? = some ce) (hv : ce.vm = .none) (hcl : s.vm.findClass E = some ce.cls)
    (hx : ∀ t : State, t.heap = H → s.vm.Alike t.vm → XC E s t) (hf : ∀ z ∈ locs, free z.base) (hc : cells ≤ mc) (hs : slots ≤ ms) :
    vx_W p l e R s m args below meth c H locs cells slots (vx_MQ below Qc XC args s mc ms free) (F0 m pc ls rest) q := by
  intro T hT X
  obtain ⟨st1, hrun, hend, hW, hsm⟩ := X.leaveThrown q (g := F0 m pc ls rest) rfl rfl rfl hout hlocks
  have hcell9 : (T.setFrames (.throwing q :: below)).heap[q]? = some ce := by
    show T.heap[q]? = some ce
    rw [hT]; exact hcell
  exact ⟨_, st1, .threw q, hrun, hend, Or.inr ⟨q, rfl, E, ce, locs, hx _ hT hW.alike, hcell9, hv, hcl, hW, hsm.mono hc hs, hf⟩⟩
theorem vx_frame {U : State} {k n : Nat} (h : s.sameButNew ({ U with vm := s.vm } : State) locs k n) : s.heap.size ≤ U.heap.size ∧ ∀ q : Nat, q < s.heap.size → (∀ z ∈ locs, z.base ≠ q) → U.heap[q]? = s.heap[q]? := by
  obtain ⟨-, h2, -, -, -, h6⟩ := h
  refine ⟨h2, fun q hq hz => ?_⟩
  obtain ⟨c9, e1, e2, e3, e4⟩ := h6 q _ (Array.getElem?_eq_getElem hq)
  have hs : c9.slots = (s.heap[q]).slots := Array.ext_getElem? fun i => e4 i fun hm => hz _ hm rfl
  have h9 : c9 = s.heap[q] := by
    rw [hs] at e2
    exact e2
  have e5 : U.heap[q]? = some c9 := e1
  rw [e5, h9, Array.getElem?_eq_getElem hq]
/-- the words of a throw but the four that speak of the heap -/
def vx_no (w : Cond) : Bool := decide (w ≠ .isRef (.static Bundle.tN "UNASSIGNED_STACK" Bundle.steD)) && decide (w ≠ .isRef (.static Bundle.tN "SUPPRESSED_SENTINEL" Bundle.listD)) && decide (w ≠ .laysStatic Bundle.tN "UNASSIGNED_STACK" Bundle.steD) && decide (w ≠ .laysStatic Bundle.tN "SUPPRESSED_SENTINEL" Bundle.listD)
def vx_at0 (own : String) (ic : Nat) (X : String) (names : List String) : List Cond := (Bundle.ownAtoms0 own ic X names).filter vx_no
def vx_atS (own : String) (ic : Nat) (X : String) (names : List String) : List Cond := (Bundle.ownAtoms own ic X names).filter vx_no
/-- a word that the tables alone decide, or a good one -/
def vx_ot (w : Cond) : Bool := w.onTables || goodWord w
theorem vx_ot_at {args a' : Array Value} {s U : State} {w : Cond} (hW : s.WarmedH U.vm) (hvm : s.vm = U.vm) (hg : vx_ot w = true) (h : w.before args s = true) : w.before a' U = true := by
  simp only [vx_ot, Bool.or_eq_true] at hg
  rcases hg with hg | hg
  · exact va_tabs hg hvm h
  · exact word_at hW (good_of_word hg) h
/-- a list's words: the good ones out of the method's own list, the others by premises of their own -/
theorem vx_hat {args : Array Value} {s : State} {L B : List Cond} (h1 : ∀ w ∈ L.filter goodWord, w.before args s = true) (h2 : ∀ w ∈ L.filter (fun w => !goodWord w), w ∈ B) (h3 : ∀ w ∈ B, w.before args s = true) : ∀ w ∈ L, w.before args s = true := by
  intro w hw
  by_cases g : goodWord w = true
  · exact h1 w (List.mem_filter.mpr ⟨hw, g⟩)
  · refine h3 w (h2 w (List.mem_filter.mpr ⟨hw, ?_⟩))
    show (!goodWord w) = true
    cases hgw : goodWord w
    · rfl
    · exact absurd hgw g
theorem vx_c {args : Array Value} {s : State} {w : Cond} {B : List Cond} (h : w.before args s = true) (t : ∀ w ∈ B, w.before args s = true) : ∀ w' ∈ w :: B, w'.before args s = true := fun w' h' => (List.mem_cons.mp h').elim (fun e => by rw [e]; exact h) (t w')
theorem vx_n {args : Array Value} {s : State} : ∀ w ∈ ([] : List Cond), w.before args s = true := fun _ h => nomatch h
theorem vx_own {args : Array Value} {s : State} {L : List Cond} (h1 : ∀ w ∈ L.filter vx_no, w.before args s = true)
    (hU : (Cond.isRef (.static Bundle.tN "UNASSIGNED_STACK" Bundle.steD)).before args s = true) (hN : (Cond.isRef (.static Bundle.tN "SUPPRESSED_SENTINEL" Bundle.listD)).before args s = true)
    (lU : (Cond.laysStatic Bundle.tN "UNASSIGNED_STACK" Bundle.steD).before args s = true) (lN : (Cond.laysStatic Bundle.tN "SUPPRESSED_SENTINEL" Bundle.listD).before args s = true) : ∀ w ∈ L, w.before args s = true := by
  intro w hw
  by_cases e1 : w = .isRef (.static Bundle.tN "UNASSIGNED_STACK" Bundle.steD)
  · rw [e1]; exact hU
  · by_cases e2 : w = .isRef (.static Bundle.tN "SUPPRESSED_SENTINEL" Bundle.listD)
    · rw [e2]; exact hN
    · by_cases e3 : w = .laysStatic Bundle.tN "UNASSIGNED_STACK" Bundle.steD
      · rw [e3]; exact lU
      · by_cases e4 : w = .laysStatic Bundle.tN "SUPPRESSED_SENTINEL" Bundle.listD
        · rw [e4]; exact lN
        · exact h1 w (List.mem_filter.mpr ⟨hw, by unfold vx_no; rw [decide_eq_true e1, decide_eq_true e2, decide_eq_true e3, decide_eq_true e4]; rfl⟩)
/-- where a static field lies, its class's statics cell in H -/
def vx_L (C n d : String) (A : Nat → Prop) (U : State) (H : Heap) : Prop := ∃ (c : ClassId) (k : Class) (i : Nat) (f : Field) (a : Nat) (cell : Cell), U.vm.findClass C = some c ∧ U.fieldFound? C n d = some (c, k, i, f) ∧ f.isStatic = true ∧ k.statics = some a ∧ H[a]? = some cell ∧ cell.vm.isStatics = true ∧ cell.cls = c ∧ f.slot < cell.slots.size ∧ k.staticTypes[f.slot]? = some f.type ∧ ¬ A a
theorem vx_L.moved {C n d : String} {A : Nat → Prop} {u U : State} {H : Heap} (hvm : u.vm.Alike U.vm) (h : vx_L C n d A u H) : vx_L C n d A U H := by
  obtain ⟨c, k, i, f, a, cell, h1, h2, h3, h4, h5, h6, h7, h8, h9, h10⟩ := h
  obtain ⟨k', hi', he⟩ := State.fieldFound?_setVm hvm h2
  exact ⟨c, k', i, f, a, cell, by rw [hvm.findClass]; exact h1, hi', h3, by rw [he]; exact h4, h5, h6, h7, h8, by rw [he]; exact h9, h10⟩
theorem vx_L.kept {C n d : String} {A : Nat → Prop} {U : State} {H H1 : Heap} (h : vx_L C n d A U H) (hq : ∀ a : Nat, a < H.size → ¬ A a → H1[a]? = H[a]?) : vx_L C n d A U H1 := by
  obtain ⟨c, k, i, f, a, cell, h1, h2, h3, h4, h5, h6, h7, h8, h9, h10⟩ := h
  exact ⟨c, k, i, f, a, cell, h1, h2, h3, h4, by rw [hq a (Array.getElem?_eq_some_iff.mp h5).1 h10]; exact h5, h6, h7, h8, h9, h10⟩
theorem vx_L.narrow {C n d : String} {A B : Nat → Prop} {U : State} {H : Heap} (h : vx_L C n d A U H) (hAB : ∀ q, B q → A q) : vx_L C n d B U H := by
  obtain ⟨c, k, i, f, a, cell, h1, h2, h3, h4, h5, h6, h7, h8, h9, h10⟩ := h
  exact ⟨c, k, i, f, a, cell, h1, h2, h3, h4, h5, h6, h7, h8, h9, fun z => h10 (hAB _ z)⟩
theorem vx_L.word {C n d : String} {A : Nat → Prop} {s : State} {args : Array Value} (h : vx_L C n d A s s.heap) : (Cond.laysStatic C n d).before args s = true := by
  obtain ⟨c, k, i, f, a, cell, h1, h2, h3, h4, h5, h6, h7, h8, h9, -⟩ := h
  show (Cond.laysStatic C n d).holds args s none s [] = true
  exact Cond.laysStatic_of h1 h2 h3 h4 h5 h6 h7 h8 h9
/-- .. and what it holds: null or some reference -/
def vx_Zq (C n d : String) (A : Nat → Prop) (U : State) (H : Heap) : Prop := va_Zq C n d A U H ∧ vx_L C n d A U H
theorem vx_Zq.moved {C n d : String} {A : Nat → Prop} {u U : State} {H : Heap} (hvm : u.vm.Alike U.vm) (h : vx_Zq C n d A u H) : vx_Zq C n d A U H := ⟨va_Zq.moved hvm h.1, vx_L.moved hvm h.2⟩
theorem vx_Zq.kept {C n d : String} {A : Nat → Prop} {U : State} {H H1 : Heap} (h : vx_Zq C n d A U H) (hq : ∀ a : Nat, a < H.size → ¬ A a → H1[a]? = H[a]?) : vx_Zq C n d A U H1 := ⟨va_Zq.kept h.1 hq, vx_L.kept h.2 hq⟩
theorem vx_Zq.narrow {C n d : String} {A B : Nat → Prop} {U : State} {H : Heap} (h : vx_Zq C n d A U H) (hAB : ∀ q, B q → A q) : vx_Zq C n d B U H := ⟨va_Zq.narrow h.1 hAB, vx_L.narrow h.2 hAB⟩
theorem vx_Zqof {args : Array Value} {s : State} {C n d : String} {A : Nat → Prop} (hl : (Cond.laysStatic C n d).before args s = true) (hini : (Cond.initialized C).before args s = true) (h : (Cond.isRef (.static C n d)).before args s = true) (hA : ∀ a : Nat, a < s.heap.size → ¬ A a) : vx_Zq C n d A s s.heap := by
  refine ⟨va_Zqof hl hini h hA, ?_⟩
  obtain ⟨c, k, i, f, a, cell, h1, h2, h3, h4, h5, h6, h7, h8, h9⟩ := Cond.laysStatic_spec hl
  exact ⟨c, k, i, f, a, cell, h1, h2, h3, h4, h5, h6, h7, h8, h9, hA a (Array.getElem?_eq_some_iff.mp h5).1⟩
theorem vx_isRef {C n d : String} {v : Value} {A : Nat → Prop} {s : State} {args : Array Value} (h : va_Z C n d v A s s.heap) (hv : v.isRef = true) : (Cond.isRef (.static C n d)).before args s = true := by
  obtain ⟨cf, kf, fi, f, a, cell, h1, h2, h3, h4, h5, h6, h7, -⟩ := h
  have he : (Term.static C n d).eval args s none [] s = some v := by
    simp [Term.eval, State.fieldNamed?, h1, h2, h4, h5, h6, h7]
  simp only [Cond.before, Cond.holds, Cond.value, he]
  cases v <;> simp_all [Value.isRef]
theorem vx_isRefq {C n d : String} {A : Nat → Prop} {s : State} {args : Array Value} (h : va_Zq C n d A s s.heap) : (Cond.isRef (.static C n d)).before args s = true := by
  rcases h with h | ⟨t, h⟩
  · exact vx_isRef h rfl
  · exact vx_isRef h rfl
/-- the same frame, seen from here: as if the method were called anew in this heap -/
theorem vx_rebase {T : State} (X : Stand p l e R s m args below meth c T locs cells slots) {R' : Room} (hf : R'.frames ≤ R.frames) (hl : R'.locals ≤ R.locals) (hc : cells + R'.cells ≤ R.cells) (hs : slots + R'.slots ≤ R.slots) :
    Stand p l e R' ((T.setVm s.vm).setFrames (.invoking m args :: below)) m args below meth c T [] 0 0 := by
  have htop : (T.setVm s.vm).topJava?.isSome := X.here.top
  have hF : ((T.setVm s.vm).setFrames (.invoking m args :: below)).frames = .invoking m args :: below := State.frames_setFrames _ (State.cur_lt_of_top htop)
  obtain ⟨g₀, hg0⟩ := Option.isSome_iff_exists.mp htop
  obtain ⟨r, hr⟩ := State.topJava?_eq_some.mp hg0
  have hl9 : e.platform.stackLimits (T.setVm s.vm).me = e.platform.stackLimits s.me := X.limits
  have hb9 : (T.setVm s.vm).me.stackBytes = s.me.stackBytes := X.bytes
  refine ⟨X.admits, X.cas, X.clock, hF, ?_, X.hears, X.method, X.code, X.here, X.tail, X.warmed, ?_, ?_, ?_⟩
  · have h := X.room
    have hU : ((T.setVm s.vm).setFrames (.invoking m args :: below)).localsInUse = s.localsInUse := by
      rw [State.localsInUse_invoking hF (meth := meth) (c := c) X.method X.code, State.localsInUse_invoking X.frames X.method X.code]
    simp only [State.hasRoom, Bool.and_eq_true, decide_eq_true_eq] at h ⊢
    obtain ⟨⟨⟨⟨h1, h2, h3, h4, h5, h6⟩, h7⟩, h8⟩, h9⟩ := h
    rw [X.frames, List.length_cons] at h2 h3
    have q1 := X.heapSize
    have q2 := X.used
    simp only [hF, hU, List.length_cons, State.stackLimits_setFrames, State.stackBytes_setFrames, hl9, hb9]
    refine ⟨⟨⟨⟨by omega, by omega, by omega, by omega, by omega, h6⟩, ?_⟩, ?_⟩, X.book⟩
    · show T.heap.size + R'.cells ≤ e.platform.maxCells
      omega
    · show T.slotsUsed + R'.slots ≤ e.platform.maxSlots
      omega
  · rw [State.stackLimits_setFrames]; rfl
  · rw [State.stackBytes_setFrames]; rfl
  · refine ⟨?_, Nat.le_refl _, Nat.le_refl _, ?_, ?_, fun a c9 h9 => ⟨c9, h9, rfl, rfl, fun _ _ => rfl⟩⟩
    · obtain ⟨t, ht, -⟩ := State.frames_cons hr
      show T.setVm s.vm = { ((T.setVm s.vm).setFrames (.invoking m args :: below)).setFrames (T.setVm s.vm).frames with heap := T.heap, slotsUsed := T.slotsUsed }
      rw [State.setFrames_setFrames, State.setFrames_self ht]
      rfl
    · show T.slotsUsed = T.slotsUsed + ((T.heap.toList.drop T.heap.size).map (·.slots.size)).sum
      rw [List.drop_eq_nil_of_le (Nat.le_of_eq Array.length_toList)]
      rfl
    · show ((T.heap.toList.drop T.heap.size).map (·.slots.size)).sum ≤ 0
      rw [List.drop_eq_nil_of_le (Nat.le_of_eq Array.length_toList)]
      exact Nat.le_refl _
/-- 'throw new E()': new; dup; invokespecial; athrow -/
theorem vx_throw0 {cc : ByteArray} {pc : Nat} (hexec : p.tables.exec = Jvm.exec) (hb : c.code = cc) (hl : l.stackTraces = false) {own cls : String} {names : List String} {ik ic mc ms : Nat} {A : Nat → Prop}
    (hown : s.vm.findClass own = some m.cls) (hcls : Bundle.fit cls = true) (hnames : ∀ n ∈ names, Bundle.fit n = true)
    (hk : (Cond.classLink own ik cls).before args s = true) (hini : (Cond.initialized cls).before args s = true) (hat : ∀ w ∈ vx_at0 own ic cls names, w.before args s = true)
    (hgood : ∀ w ∈ Cond.classLink own ik cls :: Cond.initialized cls :: vx_at0 own ic cls names, vx_ot w = true)
    (hU : vx_Zq Bundle.tN "UNASSIGNED_STACK" Bundle.steD A s s.heap) (hN : vx_Zq Bundle.tN "SUPPRESSED_SENTINEL" Bundle.listD A s s.heap) (hS : va_S A s.heap H locs) (hsize : ls.size = c.maxLocals)
    (d0 : decode cc pc = .ok (.new ik, 3)) (d3 : decode cc (pc + 3) = .ok (.dup, 1)) (d4 : decode cc (pc + 4) = .ok (.invokespecial ic, 3)) (d7 : decode cc (pc + 7) = .ok (.athrow, 1))
    (hout : ∀ x ∈ c.exceptionTable.toList, covers x (pc + 7) = false)
    (hRframes : names.length + 3 < R.frames) (hRlocals : (rest.map fun v => v.category).sum + (13 * (names.length + 1) + 42) ≤ R.locals) (hRcells : cells + 1 ≤ R.cells) (hRslots : slots + 6 ≤ R.slots) (hlocks : meth.locks = false)
    (hx : ∀ t : State, s.vm.Alike t.vm → H.size ≤ t.heap.size → (∀ q : Nat, q < H.size → t.heap[q]? = H[q]?) → XC cls s t)
    (hf : ∀ z ∈ locs, free z.base) (hc : cells + 1 ≤ mc) (hs : slots + 6 ≤ ms) :
    W p l e R s m args below meth c H locs cells slots (vx_MQ below Qc XC args s mc ms free) (F0 m pc ls rest) := by
  intro T hT X
  have htr : e.platform.stackTraces = false := (show e.platform.stackTraces = l.stackTraces by rw [X.admits.platform]).trans hl
  have Y := vx_rebase X (R' := { frames := R.frames, locals := R.locals, cells := 1, slots := 6 }) (Nat.le_refl _) (Nat.le_refl _) hRcells hRslots
  obtain ⟨s', hA⟩ : ∃ z, z = (T.setVm s.vm).setFrames (.invoking m args :: below) := ⟨_, rfl⟩
  rw [← hA] at Y
  have hvm : s'.vm = s.vm := by rw [hA]; rfl
  have hhp : s'.heap = H := by rw [hA]; exact hT
  have hW0 : s.WarmedH s'.vm := by rw [hvm]; exact State.WarmedH.refl s
  have hat' : ∀ w ∈ vx_at0 own ic cls names, w.before args s' = true := fun w hw => vx_ot_at hW0 hvm.symm (hgood w (List.mem_cons_of_mem _ (List.mem_cons_of_mem _ hw))) (hat w hw)
  have hk' : (Cond.classLink own ik cls).before args s' = true := vx_ot_at hW0 hvm.symm (hgood _ List.mem_cons_self) hk
  have hini' : (Cond.initialized cls).before args s' = true := vx_ot_at hW0 hvm.symm (hgood _ (List.mem_cons_of_mem _ List.mem_cons_self)) hini
  have hU' : vx_Zq Bundle.tN "UNASSIGNED_STACK" Bundle.steD A s' s'.heap := by rw [hhp]; exact vx_Zq.moved hW0.alike (hU.kept hS.2.1)
  have hN' : vx_Zq Bundle.tN "SUPPRESSED_SENTINEL" Bundle.listD A s' s'.heap := by rw [hhp]; exact vx_Zq.moved hW0.alike (hN.kept hS.2.1)
  have h : ∀ w ∈ Bundle.ownAtoms0 own ic cls names, w.before args s' = true := vx_own hat' (vx_isRefq hU'.1) (vx_isRefq hN'.1) hU'.2.word hN'.2.word
  have hown' : s'.vm.findClass own = some m.cls := by rw [hvm]; exact hown
  have hins : (Cond.instantiable cls 6).before args s' = true := h _ (by simp [Bundle.ownAtoms0])
  obtain ⟨vm₁, cX, kX, hfX, hkX, -, -, X₁, st1⟩ := Y.newCold hexec (own := own) (C := cls) (index := ik) (n := 6) hown' hk' hins hini'
    (g := F0 m pc ls rest) rfl (by rw [hb]; exact d0) (Nat.le_refl _) (Nat.le_refl _)
  generalize hT1 : (T.setVm vm₁).pushCell { cls := cX, slots := kX.instanceTypes.map defaultValue, vm := .none } = T1 at X₁ st1
  have hcat : (Value.ref T.heap.size).category = 1 := rfl
  have hcellA : T1.heap[T.heap.size]? = some (freshCell cX kX) := by rw [← hT1]; exact State.heap_pushCell_size _ _
  have d3' : decode c.code (pc + 3) = .ok (.dup, 1) := by rw [hb]; exact d3
  obtain ⟨U, hsteps, hrun, hend, hW, hsame, ce, hce, hO⟩ := X₁.ctorThrow0 hexec htr (own := own) (cls := cls) (names := names) (ic := ic) hown' hcls hnames h (fun x hx => nomatch hx) hfX hkX hcellA (by rw [hhp, hT]; exact Nat.le_refl _)
    (g := { method := m, pc := pc + 4, locals := ls, stack := .ref T.heap.size :: .ref T.heap.size :: rest, locked := none }) rfl hsize rfl rfl (rest := rest) rfl
    (by rw [hb]; exact d4) (by rw [hb]; exact d7) hout hRframes (by simp only [List.map_cons, List.sum_cons, hcat]; omega) hlocks
  obtain ⟨f1, f2⟩ := vx_frame hsame
  rw [hhp] at f1 f2
  have hWs : s.WarmedH U.vm := State.WarmedH.trans hW0 hW
  have hcl : s.vm.findClass cls = some ce.cls := by
    have h9 := hO.cls
    rw [hvm] at h9
    exact h9
  have hall : s.sameButNew ({ U with vm := s.vm } : State) locs mc ms := by
    subst hA
    obtain ⟨e1, e2⟩ := hsame
    rw [State.setFrames_setFrames] at e1
    have h2 : (T.setVm s.vm).sameButNew ({ U with vm := s.vm } : State) [] (0 + 1) (0 + 6) := ⟨e1, e2⟩
    have h3 := X.same.trans h2
    rw [List.append_nil] at h3
    exact h3.mono hc hs
  refine ⟨U, ?_, .threw T.heap.size, hrun, hend, Or.inr ⟨T.heap.size, rfl, cls, ce, locs, hx U hWs.alike f1 (fun q hq => f2 q hq (fun z hz => nomatch hz)), hce, hO.vm, hcl, hWs, hall, hf⟩⟩
  refine st1 _ ?_
  show Steps p.tables e below (T1.setTop { method := m, pc := pc + 3, locals := ls, stack := .ref T.heap.size :: rest, locked := none }) _
  jvm_step X₁.here [X₁.here.top, hexec, d3', Value.category]
  exact hsteps
/-- 'throw new E("text")': new; dup; ldc; invokespecial; athrow -/
theorem vx_throwS {cc : ByteArray} {pc : Nat} (hexec : p.tables.exec = Jvm.exec) (hb : c.code = cc) (hl : l.stackTraces = false) {own cls text : String} {names : List String} {ik is ic mc ms sa : Nat} {A : Nat → Prop}
    (hown : s.vm.findClass own = some m.cls) (hcls : Bundle.fit cls = true) (hnames : ∀ n ∈ names, Bundle.fit n = true)
    (hk : (Cond.classLink own ik cls).before args s = true) (hini : (Cond.initialized cls).before args s = true) (hstr : vk_R own is text sa s) (hat : ∀ w ∈ vx_atS own ic cls names, w.before args s = true)
    (hgood : ∀ w ∈ Cond.classLink own ik cls :: Cond.initialized cls :: vx_atS own ic cls names, vx_ot w = true)
    (hU : vx_Zq Bundle.tN "UNASSIGNED_STACK" Bundle.steD A s s.heap) (hN : vx_Zq Bundle.tN "SUPPRESSED_SENTINEL" Bundle.listD A s s.heap) (hS : va_S A s.heap H locs) (hsize : ls.size = c.maxLocals)
    (d0 : decode cc pc = .ok (.new ik, 3)) (d3 : decode cc (pc + 3) = .ok (.dup, 1)) (d4 : decode cc (pc + 4) = .ok (.ldc is, 2)) (d6 : decode cc (pc + 6) = .ok (.invokespecial ic, 3)) (d9 : decode cc (pc + 9) = .ok (.athrow, 1))
    (hout : ∀ x ∈ c.exceptionTable.toList, covers x (pc + 9) = false)
    (hRframes : names.length + 3 < R.frames) (hRlocals : (rest.map fun v => v.category).sum + (13 * (names.length + 1) + 43) ≤ R.locals) (hRcells : cells + 1 ≤ R.cells) (hRslots : slots + 6 ≤ R.slots) (hlocks : meth.locks = false)
    (hx : ∀ t : State, s.vm.Alike t.vm → H.size ≤ t.heap.size → (∀ q : Nat, q < H.size → t.heap[q]? = H[q]?) → XC cls s t)
    (hf : ∀ z ∈ locs, free z.base) (hc : cells + 1 ≤ mc) (hs : slots + 6 ≤ ms) :
    W p l e R s m args below meth c H locs cells slots (vx_MQ below Qc XC args s mc ms free) (F0 m pc ls rest) := by
  intro T hT X
  have htr : e.platform.stackTraces = false := (show e.platform.stackTraces = l.stackTraces by rw [X.admits.platform]).trans hl
  have Y := vx_rebase X (R' := { frames := R.frames, locals := R.locals, cells := 1, slots := 6 }) (Nat.le_refl _) (Nat.le_refl _) hRcells hRslots
  obtain ⟨s', hA⟩ : ∃ z, z = (T.setVm s.vm).setFrames (.invoking m args :: below) := ⟨_, rfl⟩
  rw [← hA] at Y
  have hvm : s'.vm = s.vm := by rw [hA]; rfl
  have hhp : s'.heap = H := by rw [hA]; exact hT
  have hW0 : s.WarmedH s'.vm := by rw [hvm]; exact State.WarmedH.refl s
  have hat' : ∀ w ∈ vx_atS own ic cls names, w.before args s' = true := fun w hw => vx_ot_at hW0 hvm.symm (hgood w (List.mem_cons_of_mem _ (List.mem_cons_of_mem _ hw))) (hat w hw)
  have hk' : (Cond.classLink own ik cls).before args s' = true := vx_ot_at hW0 hvm.symm (hgood _ List.mem_cons_self) hk
  have hini' : (Cond.initialized cls).before args s' = true := vx_ot_at hW0 hvm.symm (hgood _ (List.mem_cons_of_mem _ List.mem_cons_self)) hini
  have hU' : vx_Zq Bundle.tN "UNASSIGNED_STACK" Bundle.steD A s' s'.heap := by rw [hhp]; exact vx_Zq.moved hW0.alike (hU.kept hS.2.1)
  have hN' : vx_Zq Bundle.tN "SUPPRESSED_SENTINEL" Bundle.listD A s' s'.heap := by rw [hhp]; exact vx_Zq.moved hW0.alike (hN.kept hS.2.1)
  have h : ∀ w ∈ Bundle.ownAtoms own ic cls names, w.before args s' = true := vx_own hat' (vx_isRefq hU'.1) (vx_isRefq hN'.1) hU'.2.word hN'.2.word
  have hown' : s'.vm.findClass own = some m.cls := by rw [hvm]; exact hown
  have hins : (Cond.instantiable cls 6).before args s' = true := h _ (by simp [Bundle.ownAtoms])
  obtain ⟨vm₁, cX, kX, hfX, hkX, -, -, X₁, st1⟩ := Y.newCold hexec (own := own) (C := cls) (index := ik) (n := 6) hown' hk' hins hini'
    (g := F0 m pc ls rest) rfl (by rw [hb]; exact d0) (Nat.le_refl _) (Nat.le_refl _)
  generalize hT1 : (T.setVm vm₁).pushCell { cls := cX, slots := kX.instanceTypes.map defaultValue, vm := .none } = T1 at X₁ st1
  have hcat : (Value.ref T.heap.size).category = 1 := rfl
  have hcellA : T1.heap[T.heap.size]? = some (freshCell cX kX) := by rw [← hT1]; exact State.heap_pushCell_size _ _
  have d3' : decode c.code (pc + 3) = .ok (.dup, 1) := by rw [hb]; exact d3
  have d4' : decode c.code (pc + 4) = .ok (.ldc is, 2) := by rw [hb]; exact d4
  have hstr' : vk_R own is text sa s' := vk_R.warm hW0 hstr
  obtain ⟨U, hsteps, hrun, hend, hW, hsame, ce, hce, hO⟩ := X₁.ctorThrowS hexec htr (own := own) (cls := cls) (names := names) (ic := ic) hown' hcls hnames h (fun x hx => nomatch hx) hfX hkX hcellA (by rw [hhp, hT]; exact Nat.le_refl _) (msg := .ref sa) rfl
    (g := { method := m, pc := pc + 6, locals := ls, stack := .ref sa :: .ref T.heap.size :: .ref T.heap.size :: rest, locked := none }) rfl hsize rfl rfl (rest := rest) rfl
    (by rw [hb]; exact d6) (by rw [hb]; exact d9) hout hRframes (by simp only [List.map_cons, List.sum_cons, hcat]; omega) hlocks
  obtain ⟨f1, f2⟩ := vx_frame hsame
  rw [hhp] at f1 f2
  have hWs : s.WarmedH U.vm := State.WarmedH.trans hW0 hW
  have hcl : s.vm.findClass cls = some ce.cls := by
    have h9 := hO.cls
    rw [hvm] at h9
    exact h9
  have hall : s.sameButNew ({ U with vm := s.vm } : State) locs mc ms := by
    subst hA
    obtain ⟨e1, e2⟩ := hsame
    rw [State.setFrames_setFrames] at e1
    have h2 : (T.setVm s.vm).sameButNew ({ U with vm := s.vm } : State) [] (0 + 1) (0 + 6) := ⟨e1, e2⟩
    have h3 := X.same.trans h2
    rw [List.append_nil] at h3
    exact h3.mono hc hs
  refine ⟨U, ?_, .threw T.heap.size, hrun, hend, Or.inr ⟨T.heap.size, rfl, cls, ce, locs, hx U hWs.alike f1 (fun q hq => f2 q hq (fun z hz => nomatch hz)), hce, hO.vm, hcl, hWs, hall, hf⟩⟩
  refine st1 _ ?_
  show Steps p.tables e below (T1.setTop { method := m, pc := pc + 3, locals := ls, stack := .ref T.heap.size :: rest, locked := none }) _
  jvm_step X₁.here [X₁.here.top, hexec, d3', Value.category]
  exact X₁.ldcString hexec (own := own) (text := text) (index := is) (a := sa) hown' hstr'.1 hstr'.2
    (g := { method := m, pc := pc + 4, locals := ls, stack := .ref T.heap.size :: .ref T.heap.size :: rest, locked := none }) rfl d4' _ hsteps
/-- 'throw new E("text")', the text by a wide index -/
theorem vx_throwSW {cc : ByteArray} {pc : Nat} (hexec : p.tables.exec = Jvm.exec) (hb : c.code = cc) (hl : l.stackTraces = false) {own cls text : String} {names : List String} {ik is ic mc ms sa : Nat} {A : Nat → Prop}
    (hown : s.vm.findClass own = some m.cls) (hcls : Bundle.fit cls = true) (hnames : ∀ n ∈ names, Bundle.fit n = true)
    (hk : (Cond.classLink own ik cls).before args s = true) (hini : (Cond.initialized cls).before args s = true) (hstr : vk_R own is text sa s) (hat : ∀ w ∈ vx_atS own ic cls names, w.before args s = true)
    (hgood : ∀ w ∈ Cond.classLink own ik cls :: Cond.initialized cls :: vx_atS own ic cls names, vx_ot w = true)
    (hU : vx_Zq Bundle.tN "UNASSIGNED_STACK" Bundle.steD A s s.heap) (hN : vx_Zq Bundle.tN "SUPPRESSED_SENTINEL" Bundle.listD A s s.heap) (hS : va_S A s.heap H locs) (hsize : ls.size = c.maxLocals)
    (d0 : decode cc pc = .ok (.new ik, 3)) (d3 : decode cc (pc + 3) = .ok (.dup, 1)) (d4 : decode cc (pc + 4) = .ok (.ldc_w is, 3)) (d7 : decode cc (pc + 7) = .ok (.invokespecial ic, 3)) (d10 : decode cc (pc + 10) = .ok (.athrow, 1))
    (hout : ∀ x ∈ c.exceptionTable.toList, covers x (pc + 10) = false)
    (hRframes : names.length + 3 < R.frames) (hRlocals : (rest.map fun v => v.category).sum + (13 * (names.length + 1) + 43) ≤ R.locals) (hRcells : cells + 1 ≤ R.cells) (hRslots : slots + 6 ≤ R.slots) (hlocks : meth.locks = false)
    (hx : ∀ t : State, s.vm.Alike t.vm → H.size ≤ t.heap.size → (∀ q : Nat, q < H.size → t.heap[q]? = H[q]?) → XC cls s t)
    (hf : ∀ z ∈ locs, free z.base) (hc : cells + 1 ≤ mc) (hs : slots + 6 ≤ ms) :
    W p l e R s m args below meth c H locs cells slots (vx_MQ below Qc XC args s mc ms free) (F0 m pc ls rest) := by
  intro T hT X
  have htr : e.platform.stackTraces = false := (show e.platform.stackTraces = l.stackTraces by rw [X.admits.platform]).trans hl
  have Y := vx_rebase X (R' := { frames := R.frames, locals := R.locals, cells := 1, slots := 6 }) (Nat.le_refl _) (Nat.le_refl _) hRcells hRslots
  obtain ⟨s', hA⟩ : ∃ z, z = (T.setVm s.vm).setFrames (.invoking m args :: below) := ⟨_, rfl⟩
  rw [← hA] at Y
  have hvm : s'.vm = s.vm := by rw [hA]; rfl
  have hhp : s'.heap = H := by rw [hA]; exact hT
  have hW0 : s.WarmedH s'.vm := by rw [hvm]; exact State.WarmedH.refl s
  have hat' : ∀ w ∈ vx_atS own ic cls names, w.before args s' = true := fun w hw => vx_ot_at hW0 hvm.symm (hgood w (List.mem_cons_of_mem _ (List.mem_cons_of_mem _ hw))) (hat w hw)
  have hk' : (Cond.classLink own ik cls).before args s' = true := vx_ot_at hW0 hvm.symm (hgood _ List.mem_cons_self) hk
  have hini' : (Cond.initialized cls).before args s' = true := vx_ot_at hW0 hvm.symm (hgood _ (List.mem_cons_of_mem _ List.mem_cons_self)) hini
  have hU' : vx_Zq Bundle.tN "UNASSIGNED_STACK" Bundle.steD A s' s'.heap := by rw [hhp]; exact vx_Zq.moved hW0.alike (hU.kept hS.2.1)
  have hN' : vx_Zq Bundle.tN "SUPPRESSED_SENTINEL" Bundle.listD A s' s'.heap := by rw [hhp]; exact vx_Zq.moved hW0.alike (hN.kept hS.2.1)
  have h : ∀ w ∈ Bundle.ownAtoms own ic cls names, w.before args s' = true := vx_own hat' (vx_isRefq hU'.1) (vx_isRefq hN'.1) hU'.2.word hN'.2.word
  have hown' : s'.vm.findClass own = some m.cls := by rw [hvm]; exact hown
  have hins : (Cond.instantiable cls 6).before args s' = true := h _ (by simp [Bundle.ownAtoms])
  obtain ⟨vm₁, cX, kX, hfX, hkX, -, -, X₁, st1⟩ := Y.newCold hexec (own := own) (C := cls) (index := ik) (n := 6) hown' hk' hins hini'
    (g := F0 m pc ls rest) rfl (by rw [hb]; exact d0) (Nat.le_refl _) (Nat.le_refl _)
  generalize hT1 : (T.setVm vm₁).pushCell { cls := cX, slots := kX.instanceTypes.map defaultValue, vm := .none } = T1 at X₁ st1
  have hcat : (Value.ref T.heap.size).category = 1 := rfl
  have hcellA : T1.heap[T.heap.size]? = some (freshCell cX kX) := by rw [← hT1]; exact State.heap_pushCell_size _ _
  have d3' : decode c.code (pc + 3) = .ok (.dup, 1) := by rw [hb]; exact d3
  have d4' : decode c.code (pc + 4) = .ok (.ldc_w is, 3) := by rw [hb]; exact d4
  have hstr' : vk_R own is text sa s' := vk_R.warm hW0 hstr
  obtain ⟨U, hsteps, hrun, hend, hW, hsame, ce, hce, hO⟩ := X₁.ctorThrowS hexec htr (own := own) (cls := cls) (names := names) (ic := ic) hown' hcls hnames h (fun x hx => nomatch hx) hfX hkX hcellA (by rw [hhp, hT]; exact Nat.le_refl _) (msg := .ref sa) rfl
    (g := { method := m, pc := pc + 7, locals := ls, stack := .ref sa :: .ref T.heap.size :: .ref T.heap.size :: rest, locked := none }) rfl hsize rfl rfl (rest := rest) rfl
    (by rw [hb]; exact d7) (by rw [hb]; exact d10) hout hRframes (by simp only [List.map_cons, List.sum_cons, hcat]; omega) hlocks
  obtain ⟨f1, f2⟩ := vx_frame hsame
  rw [hhp] at f1 f2
  have hWs : s.WarmedH U.vm := State.WarmedH.trans hW0 hW
  have hcl : s.vm.findClass cls = some ce.cls := by
    have h9 := hO.cls
    rw [hvm] at h9
    exact h9
  have hall : s.sameButNew ({ U with vm := s.vm } : State) locs mc ms := by
    subst hA
    obtain ⟨e1, e2⟩ := hsame
    rw [State.setFrames_setFrames] at e1
    have h2 : (T.setVm s.vm).sameButNew ({ U with vm := s.vm } : State) [] (0 + 1) (0 + 6) := ⟨e1, e2⟩
    have h3 := X.same.trans h2
    rw [List.append_nil] at h3
    exact h3.mono hc hs
  refine ⟨U, ?_, .threw T.heap.size, hrun, hend, Or.inr ⟨T.heap.size, rfl, cls, ce, locs, hx U hWs.alike f1 (fun q hq => f2 q hq (fun z hz => nomatch hz)), hce, hO.vm, hcl, hWs, hall, hf⟩⟩
  refine st1 _ ?_
  show Steps p.tables e below (T1.setTop { method := m, pc := pc + 3, locals := ls, stack := .ref T.heap.size :: rest, locked := none }) _
  jvm_step X₁.here [X₁.here.top, hexec, d3', Value.category]
  exact X₁.ldcStringW hexec (own := own) (text := text) (index := is) (a := sa) hown' hstr'.1 hstr'.2
    (g := { method := m, pc := pc + 4, locals := ls, stack := .ref T.heap.size :: .ref T.heap.size :: rest, locked := none }) rfl d4' _ hsteps
end Ends
section Bodies
variable {l : Launch}
theorem vx_ofW {y : MethodName} {ws ws' : List Cond} {rm : Room} {Pc : Array Value → State → Prop} {Qc : Array Value → State → Outcome → State → Prop} {XC : String → State → State → Prop} {mc ms : Nat} {free : Addr → Prop} {cc : ByteArray} {maxL : Nat} {ret : Option FieldType}
    (hy : plainName y.cls = true) (hw : ws = Cond.code y cc maxL ret :: ws')
    (body : ∀ p e s m args below meth c s₁, BodyLoose p l y (headSpec ws rm) cc maxL ret e s m args below meth c s₁ → c.maxLocals = maxL → (∀ x ∈ c.exceptionTable.toList, False) → Pc args s →
      W p l e (headSpec ws rm).room s m args below meth c s.heap [] 0 0 (vx_MQ below Qc XC args s mc ms free) (entryFrame m args maxL)) : vx_Met l y ws rm Pc Qc XC mc ms free := by
  refine MetFree.of_bodyS (code := cc) (maxLocals := maxL) (ret := ret) hy ?_ ?_
  · intro args s m h hn
    obtain ⟨meth, c, h1, h2, h3, h4, h5, h6, -, -⟩ := Cond.code_spec hn (atoms_spec (ws := ws) h _ (by rw [hw]; exact List.mem_cons_self))
    exact ⟨meth, c, h1, h2, h3, h4, h5, h6⟩
  · intro p e s m args below meth c s₁ B hml hP _
    have hh0 : s₁.heap = s.heap := by rw [B.state]; rfl
    have ht : ∀ x ∈ c.exceptionTable.toList, False := by
      obtain ⟨meth9, c9, h1, h2, -, -, -, -, h7, -⟩ := Cond.code_spec B.named (atoms_spec (ws := ws) B.pre _ (by rw [hw]; exact List.mem_cons_self))
      cases Option.some.inj (h1.symm.trans B.method)
      cases Option.some.inj (h2.symm.trans (Stand.of_body B).code)
      intro x hx
      rw [Array.isEmpty_iff.mp h7] at hx
      cases hx
    obtain ⟨t, a1, o, b1, b2, b3⟩ := body p e s m args below meth c s₁ B hml ht hP s₁ hh0 (Stand.of_body B)
    exact ⟨t, o, a1, b1, b2, b3⟩
/-- the table of a body with handlers -/
theorem vx_table {p : Program} {x y : MethodName} {S : Spec} {cc bytes : ByteArray} {maxL maxL' : Nat} {ret ret' : Option FieldType} {e : Env} {s s₁ : State} {m : MethodId} {args : Array Value} {below : List Frame} {meth : Method} {c : Code} {hh : List (Nat × Nat × Nat × Nat)}
    (B : BodyLoose p l y S cc maxL ret e s m args below meth c s₁) (h : (Cond.codeWith y bytes maxL' ret' hh).before args s = true) : c.exceptionTable.toList = tableOf hh := by
  obtain ⟨m9, meth9, c9, hn9, h1, h2, -, -, h6, -⟩ := Cond.codeWith_spec h
  cases Option.some.inj (hn9.symm.trans B.named)
  cases Option.some.inj (h1.symm.trans B.method)
  cases Option.some.inj (h2.symm.trans (Stand.of_body B).code)
  rw [← h6, table_eq]
end Bodies
end VXA
/-! ===== END ===== -/
/-! ===== BEGIN a static call of a method with an exception table ===== -/
section VXS
variable {p : Program} {l : Launch} {e : Env} {R : Room} {s : State} {m : MethodId} {args : Array Value} {below : List Frame} {meth : Method} {c : Code} {T : State} {H : Heap} {locs : List Loc} {cells slots : Nat}
abbrev vx_CSW (R : Room) (s : State) (args : Array Value) (own : String) (index : Nat) (y : MethodName) (bytes : ByteArray) (maxL : Nat) (ret : Option FieldType) (hh : List (Nat × Nat × Nat × Nat)) (ws : List Cond) (rm : Room) (mc ms n : Nat) : Prop :=
  (rm.cells = mc ∧ rm.slots = ms ∧ rm.frames + 1 ≤ R.frames ∧ 8 + (maxL + 11) + rm.locals ≤ R.locals ∧ (∀ w ∈ ws, ∀ (a' : Array Value) (U : State), s.WarmedH U.vm → w.before a' U = true) ∧ Cond.codeWith y bytes maxL ret hh ∈ ws) ∧
  (Cond.codeWith y bytes maxL ret hh).before args s = true ∧ (Cond.initialized y.cls).before args s = true ∧ (y.cls ≠ "java/lang/invoke/MethodHandle" ∧ y.cls ≠ "java/lang/invoke/VarHandle") ∧
  (∀ sig, parseMethodDescriptor y.desc = some sig → n = sig.parameters.length) ∧ (Cond.methodLink own index y).before args s = true ∧ (Cond.static y).before args s = true
theorem vx_cwSW {own : String} {index maxL mc ms : Nat} {y : MethodName} {bytes : ByteArray} {ret : Option FieldType} {hh : List (Nat × Nat × Nat × Nat)} {Ts ws ws' : List Cond} {rm : Room} (n : Nat) (ht : ∀ w ∈ Ts, w.before args s = true) (hT : GoodIn Ts (va_wsS own index y ws)) (hw : ws = Cond.codeWith y bytes maxL ret hh :: ws') (hrc : rm.cells = mc) (hrs : rm.slots = ms)
    (hd : y.cls ≠ "java/lang/invoke/MethodHandle" ∧ y.cls ≠ "java/lang/invoke/VarHandle" ∧ (parseMethodDescriptor y.desc).map (fun d => d.parameters.length) = some n) (hR : rm.frames + 1 ≤ R.frames ∧ 8 + (maxL + 11) + rm.locals ≤ R.locals) :
    vx_CSW R s args own index y bytes maxL ret hh ws rm mc ms n := by
  have ok : ∀ w ∈ va_wsS own index y ws, w.before args s = true := fun w h => ht w (hT w h).1
  have hG : GoodIn Ts ws := fun w h => hT w (by unfold va_wsS; exact List.mem_append_right _ h)
  have hc : Cond.codeWith y bytes maxL ret hh ∈ ws := by rw [hw]; exact List.mem_cons_self
  refine ⟨⟨hrc, hrs, hR.1, hR.2, pay_in ht hG, hc⟩, ht _ (hG _ hc).1, ok _ (by simp [va_wsS]), ⟨hd.1, hd.2.1⟩, fun sig h => ?_, ok _ (by simp [va_wsS]), ok _ (by simp [va_wsS])⟩
  have h2 := hd.2.2
  rw [h] at h2
  exact (Option.some.inj h2).symm
theorem vx_callSW (X : Stand p l e R s m args below meth c T locs cells slots) (hexec : p.tables.exec = Jvm.exec) {own : String} {index : Nat} {y : MethodName} {bytes : ByteArray} {maxL : Nat} {ret : Option FieldType} {hh : List (Nat × Nat × Nat × Nat)}
    (hown : s.vm.findClass own = some m.cls) (hlink : (Cond.methodLink own index y).before args s = true) (hstat : (Cond.static y).before args s = true) (hinit : (Cond.initialized y.cls).before args s = true)
    (hcode : (Cond.codeWith y bytes maxL ret hh).before args s = true) (hy : y.cls ≠ "java/lang/invoke/MethodHandle" ∧ y.cls ≠ "java/lang/invoke/VarHandle")
    {W9 : Nat} {Pre : Pt → Array Value → Prop} {Post : Pt → Array Value → Option Value → Pt → Prop} (hK : Back l R p e below s args y 3 W9 Pre Post)
    {g : JFrame} (hg : g.method = m) (hsize : g.locals.size = c.maxLocals) {argsL rest : List Value} (hlen : ∀ sig, parseMethodDescriptor y.desc = some sig → argsL.length = sig.parameters.length)
    (hstack : g.stack = argsL.reverse ++ rest) (hW : 2 * g.monitorRoom + (rest.map fun v => v.category).sum ≤ W9) (hdg : decode c.code g.pc = .ok (.invokestatic index, 3))
    (hpre : ∀ vm₁, s.WarmedH vm₁ → Pre ⟨T.setVm vm₁, locs, cells, slots⟩ argsL.toArray) :
    ∃ (v : Option Value) (vm₁ : Vm) (B : Pt), s.WarmedH vm₁ ∧ Stand p l e R s m args below meth c B.U B.locs B.cells B.slots ∧ Post ⟨T.setVm vm₁, locs, cells, slots⟩ argsL.toArray v B ∧
      ∀ target, Steps p.tables e below (B.U.setTop { g with pc := g.pc + 3, stack := v.toList ++ rest }) target → Steps p.tables e below (T.setTop g) target := by
  obtain ⟨mk, methM, cM, hnamed, hmethM, -, -, -, -, -, -, hsigM⟩ := Cond.codeWith_spec hcode
  have hstatic : methM.isStatic = true := Cond.static_spec hnamed hmethM hstat
  obtain ⟨kP, hkP, -⟩ := className_of_methodNamed hnamed
  have hinitP : kP.init = .initialized := Cond.initialized_spec (findClass_of_methodNamed hnamed) hkP hinit
  obtain ⟨vm₁, X₁, hstep₁⟩ := X.invokestatic hexec hown hlink hnamed hmethM hstatic hkP hinitP hy (g := g) hg (argsL := argsL) (rest := rest) (hlen _ hsigM) hstack hdg
  obtain ⟨v, B, X', hpost, hsteps⟩ := hK m meth c ⟨T.setVm vm₁, locs, cells, slots⟩ { g with stack := rest } (.invokestatic index) mk argsL.toArray X₁ hg hsize hdg hW (X₁.named hnamed) (hpre vm₁ X₁.warmed)
  exact ⟨v, vm₁, B, X₁.warmed, X', hpost, fun target h => hstep₁ _ fun acts => by rw [doInvoke_state]; exact hsteps.trans h⟩
theorem vx_runSW {y : MethodName} {bytes cc : ByteArray} {maxL nL mc ms n index : Nat} {ret : Option FieldType} {hh : List (Nat × Nat × Nat × Nat)} {ws : List Cond} {rm : Room} {Pc : Array Value → State → Prop} {Qc : Array Value → State → Outcome → State → Prop} {free : Addr → Prop} {Ts : List Cond} {own : String} {As rest : List Value} {g : JFrame}
    (S : CallFix p m c cc nL s args Ts own) (hM : Met l y ws rm Pc Qc mc ms free) (cw : vx_CSW R s args own index y bytes maxL ret hh ws rm mc ms n) (hp : PreS s H Pc As)
    (hg : g.method = m) (hn : As.length = n) (hsize : g.locals.size = nL) (hstack : g.stack = As.reverse ++ rest) (hW : 2 * g.monitorRoom + (rest.map fun v => v.category).sum ≤ 8) (hdg : decode cc g.pc = .ok (.invokestatic index, 3)) (hf : cells + mc ≤ R.cells ∧ slots + ms ≤ R.slots) :
    va_Run p l e R s m args below meth c H locs cells slots mc ms g rest (Qc As.toArray) (free) := by
  obtain ⟨⟨hrc, hrs, hfr, hlo, hws, hcw⟩, hcode, hini, hy, hlen, hl, hstt⟩ := cw
  have hK : Back l R p e below s args y 3 8 (PreOf R mc ms Pc) (PostOf Qc mc ms free) := va_backW (hh := hh) (bytes := bytes) (maxL := maxL) (ret := ret) hM hp.1 hrc hrs hfr hlo hws hcw (fun a' U hW => word_at hW (Or.inl (by first | rfl | simp [Cond.onTables, Cond.keeps, Cond.steady])) hini)
  obtain ⟨hx, hb, hml, ho, -⟩ := S
  intro T hT X
  obtain ⟨v, vm₁, ⟨U', l2, c2, s2⟩, hW₁, X', ⟨g', mk, t, L, e1, e2, hq, h1, hL, h2, h3⟩, st⟩ := vx_callSW X hx (hh := hh) (bytes := bytes) (maxL := maxL) (ret := ret) ho hl hstt hini hcode hy hK hg (hsize.trans hml.symm) (argsL := As) (rest := rest) (fun sig h => hn.trans (hlen sig h)) hstack hW (by rw [hb]; exact hdg)
    (fun vm₁ hW₁ => ⟨hf.1, hf.2, hp.2 (T.setVm vm₁) hT hW₁⟩)
  dsimp only [Pt.U, Pt.locs, Pt.cells, Pt.slots] at X' e1 e2 h1 h2 h3 st
  subst h1; subst h2; subst h3
  exact ⟨v, (T.setVm vm₁).calling g' mk As.toArray, t, U', L, hT, X', hL, e1, e2, hq, st⟩
/-- not caught here, past rows that name other classes: it goes on to the caller -/
theorem vx_outP {p : Program} {l : Launch} {e : Env} {R : Room} {s : State} {m : MethodId} {args : Array Value} {below : List Frame} {meth : Method} {c : Code} {H : Heap} {locs : List Loc} {cells slots : Nat} {free : Addr → Prop} {ls : Array Slot} {rest : List Value} {Qc : Array Value → State → Outcome → State → Prop} {XC : String → State → State → Prop}
    {pc : Nat} {own E : String} {ce : Cell} {q : Addr} {mc ms : Nat} (hown : s.vm.findClass own = some m.cls) (hlocks : meth.locks = false)
    (hpass : ∀ z ∈ c.exceptionTable.toList, covers z pc = false ∨ (z.catchType ≠ 0 ∧ ∃ nm : String, (Cond.classLink own z.catchType nm).before args s = true ∧ va_Nc E nm s)) (hcell : H[q]? = some ce) (hv : ce.vm = .none) (hcl : s.vm.findClass E = some ce.cls)
    (hx : ∀ t : State, t.heap = H → s.vm.Alike t.vm → XC E s t) (hf : ∀ z ∈ locs, free z.base) (hc : cells ≤ mc) (hs : slots ≤ ms) :
    vx_W p l e R s m args below meth c H locs cells slots (vx_MQ below Qc XC args s mc ms free) (F0 m pc ls rest) q := by
  intro T hT X
  have hpl : e.platform.magicAccessors = ({} : Platform).magicAccessors := by rw [X.admits.platform]
  obtain ⟨vm', hW', X', st⟩ := X.outThrough hlocks q (g := F0 m pc ls rest) rfl rfl rfl (cell := ce) (by rw [hT]; exact hcell) (by rw [hv]; rfl)
    (by obtain ⟨k9, h9, -⟩ := Vm.findClass_spec hcl; exact ⟨k9, h9⟩) (fun z hz => by
      rcases hpass z hz with h | ⟨hz0, nm, hl1, hn1⟩
      · exact Or.inl h
      · obtain ⟨c6, hc6, hcl6⟩ := Cond.classLink_spec hown hl1 e.platform hpl
        obtain ⟨a8, b8, h1, h2, h3⟩ := hn1
        cases Option.some.inj (h1.symm.trans hcl)
        cases Option.some.inj (h2.symm.trans hc6)
        exact Or.inr ⟨hz0, _, hcl6, h3⟩)
  obtain ⟨g₀, hfr⟩ := X'.frames_eq
  have hcell9 : ((T.setVm vm').setFrames (.throwing q :: below)).heap[q]? = some ce := by
    show T.heap[q]? = some ce
    rw [hT]; exact hcell
  have hend : Ended ((T.setVm vm').setFrames (.throwing q :: below)) below (.threw q) := State.frames_setFrames _ (State.cur_lt_of_frames hfr)
  refine ⟨(T.setVm vm').setFrames (.throwing q :: below), ?_, .threw q, X'.here.running, hend, Or.inr ⟨q, rfl, E, ce, locs, hx _ hT (X'.ends _).1.alike, hcell9, hv, hcl, (X'.ends _).1, (X'.ends _).2.mono hc hs, hf⟩⟩
  rw [X.pushThrowing_eq]
  exact st
/-- a thing of a world lies in the heap -/
theorem vx_lt {D : va_G} {cl : List vw_C} {ws : va_W} {H1 : Heap} (h : va_P D cl ws H1) {k : Nat} {q : Nat × va_E} (hk : ws[k]? = some q) : q.1 < H1.size := (h k q hk).lt
end VXS
/-! ===== END ===== -/
/-! ===== BEGIN methods with a table of their own: called by a name, returning or throwing ===== -/
section VXH
/-! vx_backW, vx_callVX, vx_callSX, vx_callVW, vx_runVW, vx_runVX, vx_runSX, vx_ofWH follow the same proofs as their sisters above (Free/Laws.lean, Shelf42/LK1.lean); vx_outP calls Shelf42/NT130.lean (outThrough). -/
section
variable {l : Launch} {R : Room} {p : Program} {e : Env} {below : List Frame} {s : State} {sargs : Array Value} {y : MethodName} {len W9 : Nat}
theorem vx_backW {ws : List Cond} {rm : Room} {Pc : Array Value → State → Prop} {Qc : Array Value → State → Outcome → State → Prop} {XC : String → State → State → Prop} {mc ms : Nat} {free : Addr → Prop} {bytes : ByteArray} {maxL : Nat} {ret : Option FieldType} {hh : List (Nat × Nat × Nat × Nat)}
    (hM : vx_Met l y ws rm Pc Qc XC mc ms free) (hblind : FrameBlind Pc) (hrc : rm.cells = mc) (hrs : rm.slots = ms)
    (hframes : rm.frames + 1 ≤ R.frames) (hlocals : W9 + (maxL + 11) + rm.locals ≤ R.locals)
    (hws : ∀ w ∈ ws, ∀ a' U, s.WarmedH U.vm → w.before a' U = true) (hcode : Cond.codeWith y bytes maxL ret hh ∈ ws) (hinit : ∀ a' U, s.WarmedH U.vm → (Cond.initialized y.cls).before a' U = true) :
    vx_Back l R p e below s sargs y len W9 (PreOf R mc ms Pc) (PostOf Qc mc ms free) (vx_Post XC mc ms free) := by
  intro m meth c A g ig mk a X hg hsize hdg hW hn hp
  have h1 : (headSpec ws rm).pre.before a A.U = true := atoms_intro fun w hw => hws w hw _ _ X.warmed
  have h2 : (Cond.codeWith y bytes maxL ret hh).before a A.U = true := hws _ hcode _ _ X.warmed
  have h3 : (Cond.initialized y.cls).before a A.U = true := hinit _ _ X.warmed
  have h4 : A.cells + (headSpec ws rm).room.cells ≤ R.cells := by rw [show (headSpec ws rm).room.cells = mc from hrc]; exact hp.1
  have h5 : A.slots + (headSpec ws rm).room.slots ≤ R.slots := by rw [show (headSpec ws rm).room.slots = ms from hrs]; exact hp.2.1
  have hPc : Pc a (A.U.calling g mk a) := hblind _ _ _ _ hp.2.2
  obtain ⟨U, Ls, c0, s0⟩ := A
  dsimp only [Pt.U, Pt.locs, Pt.cells, Pt.slots] at h1 h2 h3 h4 h5 X hn hPc ⊢
  obtain ⟨m9, methY, cY, hn9, hmY, hcY, -, hlY, -⟩ := Cond.codeWith_spec h2
  cases Option.some.inj (hn9.symm.trans hn)
  obtain ⟨kY, hkY, -⟩ := className_of_methodNamed hn
  have hinitY : kY.init = .initialized := Cond.initialized_spec (findClass_of_methodNamed hn) hkY h3
  have h : At U g.method c below := by rw [hg]; exact X.here
  have hlocals9 : W9 + (maxL + 11) + (headSpec ws rm).room.locals ≤ R.locals := hlocals
  have happ : (headSpec ws rm).appliesLoose y e.platform (U.calling g mk a) = true :=
    Spec.appliesLoose_calling (g := g) h hdg hn hkY hinitY
      (X.room_calling (g := g) (R' := (headSpec ws rm).room) hsize hmY hcY hframes (by rw [hlY]; omega) h4 h5) h1
  obtain ⟨mid, hmid⟩ := h.above
  have hfr : (U.setTop g).frames = (.java g :: mid) ++ below := by rw [State.frames_setTop' g h.top, hmid]; rfl
  obtain ⟨o, s₂, hsteps, -, hend, hq⟩ := Steps.callFree hM p X.admits X.cas X.clock (acts := []) hfr happ hPc trivial
  have hq' : vx_Q Qc XC mc ms free a (U.calling g mk a) o s₂ := hq
  rw [State.frames_setTop' g h.top] at hend
  obtain ⟨g₀, hg0⟩ := Option.isSome_iff_exists.mp h.top
  obtain ⟨r, hr⟩ := State.topJava?_eq_some.mp hg0
  have hr' : (({ U with heap := s₂.heap, slotsUsed := s₂.slotsUsed } : State).setVm s₂.vm).frames = .java g₀ :: r := hr
  rcases hq' with ⟨hqc, L, hfe, hL⟩ | ⟨q, rfl, E, ce, L, hx, hce, hcv, hcl, hW₂, hsm, hL⟩
  · obtain ⟨⟨v, rfl⟩, hW₂, e2, q2, q3, q4, q5, q6⟩ := id hfe
    have e3 : s₂ = ({ (U.calling g mk a).setFrames s₂.frames with heap := s₂.heap, slotsUsed := s₂.slotsUsed } : State).setVm s₂.vm := by
      have : s₂ = ({ s₂ with vm := (U.calling g mk a).vm } : State).setVm s₂.vm := rfl
      rw [e2] at this
      exact this
    obtain ⟨c₂, i₂, len₂, hc₂, hd₂, hf₂⟩ := hend
    have hW' : U.WarmedH s₂.vm := hW₂
    have hcc : c₂ = c := by
      have h1 : s₂.code? g.method = U.code? g.method := by
        rw [State.code?_eq, State.code?_eq, hW'.alike.method?]
      exact Option.some.inj (hc₂.symm.trans (h1.trans h.code))
    subst hcc
    have hlen : len₂ = len := by rw [hdg] at hd₂; cases hd₂; rfl
    subst hlen
    have hs₂ : s₂ = (({ U with heap := s₂.heap, slotsUsed := s₂.slotsUsed } : State).setVm s₂.vm).setTop { g with pc := g.pc + len₂, stack := v.toList ++ g.stack } := by
      refine e3.trans ?_
      rw [hf₂, State.calling_eq h.top, State.setFrames_setFrames, State.setTop_of_frames _ hr', hr]
      rfl
    have hsame : U.sameButNew ({ U with heap := s₂.heap, slotsUsed := s₂.slotsUsed } : State) L mc ms := by
      refine ⟨?_, q2, q3, q4, q5, q6⟩
      obtain ⟨t, ht, -⟩ := State.frames_cons hr
      show ({ U with heap := s₂.heap, slotsUsed := s₂.slotsUsed } : State) = { U.setFrames U.frames with heap := s₂.heap, slotsUsed := s₂.slotsUsed }
      rw [State.setFrames_self ht]
    subst hg
    refine Or.inl ⟨v, ⟨(({ U with heap := s₂.heap, slotsUsed := s₂.slotsUsed } : State).setVm s₂.vm), Ls ++ L, c0 + mc, s0 + ms⟩,
      ⟨X.admits, X.cas, X.clock, X.frames, X.room, X.hears, X.method, X.code, (X.here.setHeapUsed s₂.heap s₂.slotsUsed).setVm hW'.alike, X.tail, State.WarmedH.trans X.warmed hW', X.limits, X.bytes, X.same.trans (hsame.setVm s.vm)⟩,
      ⟨g, mk, s₂, L, rfl, rfl, hqc, rfl, hL, rfl, rfl⟩, ?_⟩
    show Steps p.tables e below _ ((({ U with heap := s₂.heap, slotsUsed := s₂.slotsUsed } : State).setVm s₂.vm).setTop { g with pc := g.pc + len₂, stack := v.toList ++ g.stack })
    rw [← hs₂]
    exact hsteps
  · obtain ⟨e2, q2, q3, q4, q5, q6⟩ := id hsm
    have e3 : s₂ = ({ (U.calling g mk a).setFrames s₂.frames with heap := s₂.heap, slotsUsed := s₂.slotsUsed } : State).setVm s₂.vm := by
      have : s₂ = ({ s₂ with vm := (U.calling g mk a).vm } : State).setVm s₂.vm := rfl
      rw [e2] at this
      exact this
    have hf₂ : s₂.frames = .throwing q :: .java g :: U.frames.tail := hend
    have hW' : U.WarmedH s₂.vm := hW₂
    have hs₂ : s₂ = ((({ U with heap := s₂.heap, slotsUsed := s₂.slotsUsed } : State).setVm s₂.vm).setTop g).pushFrame (.throwing q) := by
      refine e3.trans ?_
      rw [hf₂, State.calling_eq h.top, State.setFrames_setFrames, State.pushFrame, State.frames_setTop _ hr', State.setTop_of_frames _ hr', State.setFrames_setFrames, hr]
      rfl
    have hsame : U.sameButNew ({ U with heap := s₂.heap, slotsUsed := s₂.slotsUsed } : State) L mc ms := by
      refine ⟨?_, q2, q3, q4, q5, q6⟩
      obtain ⟨t, ht, -⟩ := State.frames_cons hr
      show ({ U with heap := s₂.heap, slotsUsed := s₂.slotsUsed } : State) = { U.setFrames U.frames with heap := s₂.heap, slotsUsed := s₂.slotsUsed }
      rw [State.setFrames_self ht]
    subst hg
    refine Or.inr ⟨q, ⟨(({ U with heap := s₂.heap, slotsUsed := s₂.slotsUsed } : State).setVm s₂.vm), Ls ++ L, c0 + mc, s0 + ms⟩,
      ⟨X.admits, X.cas, X.clock, X.frames, X.room, X.hears, X.method, X.code, (X.here.setHeapUsed s₂.heap s₂.slotsUsed).setVm hW'.alike, X.tail, State.WarmedH.trans X.warmed hW', X.limits, X.bytes, X.same.trans (hsame.setVm s.vm)⟩,
      ⟨g, mk, s₂, L, E, ce, rfl, rfl, hx, hce, hcv, hcl, rfl, hL, rfl, rfl⟩, ?_⟩
    show Steps p.tables e below _ (((({ U with heap := s₂.heap, slotsUsed := s₂.slotsUsed } : State).setVm s₂.vm).setTop g).pushFrame (.throwing q))
    rw [← hs₂]
    exact hsteps
end
variable {p : Program} {l : Launch} {e : Env} {R : Room} {s : State} {m : MethodId} {args : Array Value} {below : List Frame} {meth : Method} {c : Code} {T : State} {H : Heap} {locs : List Loc} {cells slots : Nat}
theorem vx_callVX (X : Stand p l e R s m args below meth c T locs cells slots) (hexec : p.tables.exec = Jvm.exec) {own C : String} {index : Nat} {y : MethodName} {bytes : ByteArray} {maxL : Nat} {ret : Option FieldType} {hh : List (Nat × Nat × Nat × Nat)}
    (hown : s.vm.findClass own = some m.cls) (hlink : (Cond.methodLink own index y).before args s = true) (hinst : (Cond.instanceMethod y).before args s = true) (hsel : (Cond.selects C y y).before args s = true)
    (hcode : (Cond.codeWith y bytes maxL ret hh).before args s = true) (hy : y.cls ≠ "java/lang/invoke/MethodHandle" ∧ y.cls ≠ "java/lang/invoke/VarHandle")
    {W9 : Nat} {Pre : Pt → Array Value → Prop} {Post : Pt → Array Value → Option Value → Pt → Prop} {PostX : Pt → Array Value → Addr → Pt → Prop} (hK : vx_Back l R p e below s args y 3 W9 Pre Post PostX)
    {b : Addr} {cellB : Cell} (hcell : T.heap[b]? = some cellB) (hobj : cellB.vm.isStatics = false) (hcls : s.vm.findClass C = some cellB.cls)
    {g : JFrame} (hg : g.method = m) (hsize : g.locals.size = c.maxLocals) {argsL rest : List Value} (hlen : ∀ sig, parseMethodDescriptor y.desc = some sig → argsL.length = sig.parameters.length)
    (hstack : g.stack = argsL.reverse ++ .ref b :: rest) (hW : 2 * g.monitorRoom + (rest.map fun v => v.category).sum ≤ W9) (hdg : decode c.code g.pc = .ok (.invokevirtual index, 3))
    (hpre : ∀ vm₁, s.WarmedH vm₁ → Pre ⟨T.setVm vm₁, locs, cells, slots⟩ (Value.ref b :: argsL).toArray) :
    (∃ (v : Option Value) (vm₁ : Vm) (B : Pt), s.WarmedH vm₁ ∧ Stand p l e R s m args below meth c B.U B.locs B.cells B.slots ∧ Post ⟨T.setVm vm₁, locs, cells, slots⟩ (Value.ref b :: argsL).toArray v B ∧
      ∀ target, Steps p.tables e below (B.U.setTop { g with pc := g.pc + 3, stack := v.toList ++ rest }) target → Steps p.tables e below (T.setTop g) target) ∨
    (∃ (q : Addr) (vm₁ : Vm) (B : Pt), s.WarmedH vm₁ ∧ Stand p l e R s m args below meth c B.U B.locs B.cells B.slots ∧ PostX ⟨T.setVm vm₁, locs, cells, slots⟩ (Value.ref b :: argsL).toArray q B ∧
      Steps p.tables e below (T.setTop g) ((B.U.setTop { g with stack := rest }).pushFrame (.throwing q))) := by
  obtain ⟨mk, methM, hnamed, hmethM, hstM, habM⟩ := Cond.instanceMethod_spec hinst
  obtain ⟨m8, methM', cM, hn8, hmethM', -, -, -, -, -, -, hsigM⟩ := Cond.codeWith_spec hcode
  cases Option.some.inj (hn8.symm.trans hnamed)
  cases hmethM.symm.trans hmethM'
  obtain ⟨c2, r2, m2, q1, q2, q3, q4, kP, hkP, hkPi⟩ := Cond.selects_spec hsel
  cases hcls.symm.trans q1
  cases (State.methodFound?_of_named hnamed hy).symm.trans q2
  cases hnamed.symm.trans q3
  have hselP : selectMethod e.platform s.vm cellB.cls mk = .method mk := by rw [Launch.admits_selectMethod X.admits]; exact q4
  obtain ⟨vm₁, X₁, hstep₁⟩ := X.invokevirtual hexec hown hlink hnamed hmethM hstM hkP hkPi hy (a := b) (cell := cellB) hcell
    (fun z h => by rw [h] at hobj; cases hobj) hselP hmethM habM hkP hkPi (g := g) hg (argsL := argsL) (rest := rest) (hlen _ hsigM) hstack hdg
  rcases hK m meth c ⟨T.setVm vm₁, locs, cells, slots⟩ { g with stack := rest } (.invokevirtual index) mk (Value.ref b :: argsL).toArray X₁ hg hsize hdg hW (X₁.named hnamed) (hpre vm₁ X₁.warmed) with ⟨v, B, X', hpost, hsteps⟩ | ⟨q, B, X', hpost, hsteps⟩
  · exact Or.inl ⟨v, vm₁, B, X₁.warmed, X', hpost, fun target h => hstep₁ _ fun acts => by rw [doInvoke_state]; exact hsteps.trans h⟩
  · exact Or.inr ⟨q, vm₁, B, X₁.warmed, X', hpost, hstep₁ _ fun acts => by rw [doInvoke_state]; exact hsteps⟩
theorem vx_callSX (X : Stand p l e R s m args below meth c T locs cells slots) (hexec : p.tables.exec = Jvm.exec) {own : String} {index : Nat} {y : MethodName} {bytes : ByteArray} {maxL : Nat} {ret : Option FieldType} {hh : List (Nat × Nat × Nat × Nat)}
    (hown : s.vm.findClass own = some m.cls) (hlink : (Cond.methodLink own index y).before args s = true) (hstat : (Cond.static y).before args s = true) (hinit : (Cond.initialized y.cls).before args s = true)
    (hcode : (Cond.codeWith y bytes maxL ret hh).before args s = true) (hy : y.cls ≠ "java/lang/invoke/MethodHandle" ∧ y.cls ≠ "java/lang/invoke/VarHandle")
    {W9 : Nat} {Pre : Pt → Array Value → Prop} {Post : Pt → Array Value → Option Value → Pt → Prop} {PostX : Pt → Array Value → Addr → Pt → Prop} (hK : vx_Back l R p e below s args y 3 W9 Pre Post PostX)
    {g : JFrame} (hg : g.method = m) (hsize : g.locals.size = c.maxLocals) {argsL rest : List Value} (hlen : ∀ sig, parseMethodDescriptor y.desc = some sig → argsL.length = sig.parameters.length)
    (hstack : g.stack = argsL.reverse ++ rest) (hW : 2 * g.monitorRoom + (rest.map fun v => v.category).sum ≤ W9) (hdg : decode c.code g.pc = .ok (.invokestatic index, 3))
    (hpre : ∀ vm₁, s.WarmedH vm₁ → Pre ⟨T.setVm vm₁, locs, cells, slots⟩ argsL.toArray) :
    (∃ (v : Option Value) (vm₁ : Vm) (B : Pt), s.WarmedH vm₁ ∧ Stand p l e R s m args below meth c B.U B.locs B.cells B.slots ∧ Post ⟨T.setVm vm₁, locs, cells, slots⟩ argsL.toArray v B ∧
      ∀ target, Steps p.tables e below (B.U.setTop { g with pc := g.pc + 3, stack := v.toList ++ rest }) target → Steps p.tables e below (T.setTop g) target) ∨
    (∃ (q : Addr) (vm₁ : Vm) (B : Pt), s.WarmedH vm₁ ∧ Stand p l e R s m args below meth c B.U B.locs B.cells B.slots ∧ PostX ⟨T.setVm vm₁, locs, cells, slots⟩ argsL.toArray q B ∧
      Steps p.tables e below (T.setTop g) ((B.U.setTop { g with stack := rest }).pushFrame (.throwing q))) := by
  obtain ⟨mk, methM, cM, hnamed, hmethM, -, -, -, -, -, -, hsigM⟩ := Cond.codeWith_spec hcode
  have hstatic : methM.isStatic = true := Cond.static_spec hnamed hmethM hstat
  obtain ⟨kP, hkP, -⟩ := className_of_methodNamed hnamed
  have hinitP : kP.init = .initialized := Cond.initialized_spec (findClass_of_methodNamed hnamed) hkP hinit
  obtain ⟨vm₁, X₁, hstep₁⟩ := X.invokestatic hexec hown hlink hnamed hmethM hstatic hkP hinitP hy (g := g) hg (argsL := argsL) (rest := rest) (hlen _ hsigM) hstack hdg
  rcases hK m meth c ⟨T.setVm vm₁, locs, cells, slots⟩ { g with stack := rest } (.invokestatic index) mk argsL.toArray X₁ hg hsize hdg hW (X₁.named hnamed) (hpre vm₁ X₁.warmed) with ⟨v, B, X', hpost, hsteps⟩ | ⟨q, B, X', hpost, hsteps⟩
  · exact Or.inl ⟨v, vm₁, B, X₁.warmed, X', hpost, fun target h => hstep₁ _ fun acts => by rw [doInvoke_state]; exact hsteps.trans h⟩
  · exact Or.inr ⟨q, vm₁, B, X₁.warmed, X', hpost, hstep₁ _ fun acts => by rw [doInvoke_state]; exact hsteps⟩
theorem vx_callVW (X : Stand p l e R s m args below meth c T locs cells slots) (hexec : p.tables.exec = Jvm.exec) {own C : String} {index : Nat} {y : MethodName} {bytes : ByteArray} {maxL : Nat} {ret : Option FieldType} {hh : List (Nat × Nat × Nat × Nat)}
    (hown : s.vm.findClass own = some m.cls) (hlink : (Cond.methodLink own index y).before args s = true) (hinst : (Cond.instanceMethod y).before args s = true) (hsel : (Cond.selects C y y).before args s = true)
    (hcode : (Cond.codeWith y bytes maxL ret hh).before args s = true) (hy : y.cls ≠ "java/lang/invoke/MethodHandle" ∧ y.cls ≠ "java/lang/invoke/VarHandle")
    {W9 : Nat} {Pre : Pt → Array Value → Prop} {Post : Pt → Array Value → Option Value → Pt → Prop} (hK : Back l R p e below s args y 3 W9 Pre Post)
    {b : Addr} {cellB : Cell} (hcell : T.heap[b]? = some cellB) (hobj : cellB.vm.isStatics = false) (hcls : s.vm.findClass C = some cellB.cls)
    {g : JFrame} (hg : g.method = m) (hsize : g.locals.size = c.maxLocals) {argsL rest : List Value} (hlen : ∀ sig, parseMethodDescriptor y.desc = some sig → argsL.length = sig.parameters.length)
    (hstack : g.stack = argsL.reverse ++ .ref b :: rest) (hW : 2 * g.monitorRoom + (rest.map fun v => v.category).sum ≤ W9) (hdg : decode c.code g.pc = .ok (.invokevirtual index, 3))
    (hpre : ∀ vm₁, s.WarmedH vm₁ → Pre ⟨T.setVm vm₁, locs, cells, slots⟩ (Value.ref b :: argsL).toArray) :
    ∃ (v : Option Value) (vm₁ : Vm) (B : Pt), s.WarmedH vm₁ ∧ Stand p l e R s m args below meth c B.U B.locs B.cells B.slots ∧ Post ⟨T.setVm vm₁, locs, cells, slots⟩ (Value.ref b :: argsL).toArray v B ∧
      ∀ target, Steps p.tables e below (B.U.setTop { g with pc := g.pc + 3, stack := v.toList ++ rest }) target → Steps p.tables e below (T.setTop g) target := by
  obtain ⟨mk, methM, hnamed, hmethM, hstM, habM⟩ := Cond.instanceMethod_spec hinst
  obtain ⟨m8, methM', cM, hn8, hmethM', -, -, -, -, -, -, hsigM⟩ := Cond.codeWith_spec hcode
  cases Option.some.inj (hn8.symm.trans hnamed)
  cases hmethM.symm.trans hmethM'
  obtain ⟨c2, r2, m2, q1, q2, q3, q4, kP, hkP, hkPi⟩ := Cond.selects_spec hsel
  cases hcls.symm.trans q1
  cases (State.methodFound?_of_named hnamed hy).symm.trans q2
  cases hnamed.symm.trans q3
  have hselP : selectMethod e.platform s.vm cellB.cls mk = .method mk := by rw [Launch.admits_selectMethod X.admits]; exact q4
  obtain ⟨vm₁, X₁, hstep₁⟩ := X.invokevirtual hexec hown hlink hnamed hmethM hstM hkP hkPi hy (a := b) (cell := cellB) hcell
    (fun z h => by rw [h] at hobj; cases hobj) hselP hmethM habM hkP hkPi (g := g) hg (argsL := argsL) (rest := rest) (hlen _ hsigM) hstack hdg
  obtain ⟨v, B, X', hpost, hsteps⟩ := hK m meth c ⟨T.setVm vm₁, locs, cells, slots⟩ { g with stack := rest } (.invokevirtual index) mk (Value.ref b :: argsL).toArray X₁ hg hsize hdg hW (X₁.named hnamed) (hpre vm₁ X₁.warmed)
  exact ⟨v, vm₁, B, X₁.warmed, X', hpost, fun target h => hstep₁ _ fun acts => by rw [doInvoke_state]; exact hsteps.trans h⟩
abbrev vx_CVW (R : Room) (s : State) (args : Array Value) (own C : String) (index : Nat) (y : MethodName) (bytes : ByteArray) (maxL : Nat) (ret : Option FieldType) (hh : List (Nat × Nat × Nat × Nat)) (ws : List Cond) (rm : Room) (mc ms n : Nat) : Prop :=
  (rm.cells = mc ∧ rm.slots = ms ∧ rm.frames + 1 ≤ R.frames ∧ 8 + (maxL + 11) + rm.locals ≤ R.locals ∧ (∀ w ∈ ws, ∀ (a' : Array Value) (U : State), s.WarmedH U.vm → w.before a' U = true) ∧ Cond.codeWith y bytes maxL ret hh ∈ ws) ∧
  (Cond.codeWith y bytes maxL ret hh).before args s = true ∧ (Cond.initialized y.cls).before args s = true ∧ (y.cls ≠ "java/lang/invoke/MethodHandle" ∧ y.cls ≠ "java/lang/invoke/VarHandle") ∧
  (∀ sig, parseMethodDescriptor y.desc = some sig → n = sig.parameters.length) ∧ (Cond.methodLink own index y).before args s = true ∧ (Cond.instanceMethod y).before args s = true ∧ (Cond.selects C y y).before args s = true
theorem vx_cwVW {own C : String} {index maxL mc ms : Nat} {y : MethodName} {bytes : ByteArray} {ret : Option FieldType} {hh : List (Nat × Nat × Nat × Nat)} {Ts ws ws' : List Cond} {rm : Room} (n : Nat) (ht : ∀ w ∈ Ts, w.before args s = true) (hT : GoodIn Ts (wsV own index C y ws)) (hw : ws = Cond.codeWith y bytes maxL ret hh :: ws') (hrc : rm.cells = mc) (hrs : rm.slots = ms)
    (hd : y.cls = C ∧ y.cls ≠ "java/lang/invoke/MethodHandle" ∧ y.cls ≠ "java/lang/invoke/VarHandle" ∧ (parseMethodDescriptor y.desc).map (fun d => d.parameters.length) = some n) (hR : rm.frames + 1 ≤ R.frames ∧ 8 + (maxL + 11) + rm.locals ≤ R.locals) :
    vx_CVW R s args own C index y bytes maxL ret hh ws rm mc ms n := by
  obtain ⟨hC, hd⟩ := hd
  subst hC
  have ok : ∀ w ∈ wsV own index y.cls y ws, w.before args s = true := fun w h => ht w (hT w h).1
  have hG : GoodIn Ts ws := fun w h => hT w (by unfold wsV; exact List.mem_append_right _ h)
  have hc : Cond.codeWith y bytes maxL ret hh ∈ ws := by rw [hw]; exact List.mem_cons_self
  refine ⟨⟨hrc, hrs, hR.1, hR.2, pay_in ht hG, hc⟩, ht _ (hG _ hc).1, ok _ (by simp [wsV]), ⟨hd.1, hd.2.1⟩, fun sig h => ?_, ok _ (by simp [wsV]), ok _ (by simp [wsV]), ok _ (by simp [wsV])⟩
  have h2 := hd.2.2
  rw [h] at h2
  exact (Option.some.inj h2).symm
theorem vx_runVW {y : MethodName} {bytes cc : ByteArray} {maxL nL mc ms n index : Nat} {ret : Option FieldType} {hh : List (Nat × Nat × Nat × Nat)} {ws : List Cond} {rm : Room} {Pc : Array Value → State → Prop} {Qc : Array Value → State → Outcome → State → Prop} {free : Addr → Prop} {Ts : List Cond} {own C : String} {b : Addr} {As rest : List Value} {g : JFrame}
    (S : CallFix p m c cc nL s args Ts own) (hM : Met l y ws rm Pc Qc mc ms free) (cw : vx_CVW R s args own C index y bytes maxL ret hh ws rm mc ms n) (hp : PreV s H C b Pc As)
    (hg : g.method = m) (hn : As.length = n) (hsize : g.locals.size = nL) (hstack : g.stack = As.reverse ++ .ref b :: rest) (hW : 2 * g.monitorRoom + (rest.map fun v => v.category).sum ≤ 8) (hdg : decode cc g.pc = .ok (.invokevirtual index, 3)) (hf : cells + mc ≤ R.cells ∧ slots + ms ≤ R.slots) :
    va_Run p l e R s m args below meth c H locs cells slots mc ms g rest (Qc (Value.ref b :: As).toArray) free := by
  obtain ⟨⟨hrc, hrs, hfr, hlo, hws, hcw⟩, hcode, hini, hy, hlen, hl, hin, hse⟩ := cw
  have hK : Back l R p e below s args y 3 8 (PreOf R mc ms Pc) (PostOf Qc mc ms free) := va_backW (hh := hh) (bytes := bytes) (maxL := maxL) (ret := ret) hM hp.1 hrc hrs hfr hlo hws hcw (fun a' U hW => word_at hW (Or.inl (by first | rfl | simp [Cond.onTables, Cond.keeps, Cond.steady])) hini)
  obtain ⟨hx, hb, hml, ho, -⟩ := S
  obtain ⟨-, ⟨cellB, hcB, hoB, hclB⟩, hPc⟩ := hp
  intro T hT X
  obtain ⟨v, vm₁, ⟨U', l2, c2, s2⟩, hW₁, X', ⟨g', mk, t, L, e1, e2, hq, h1, hL, h2, h3⟩, st⟩ := vx_callVW X hx (C := C) (hh := hh) (bytes := bytes) (maxL := maxL) (ret := ret) ho hl hin hse hcode hy hK (by rw [hT]; exact hcB) hoB hclB hg (hsize.trans hml.symm) (argsL := As) (rest := rest) (fun sig h => hn.trans (hlen sig h)) hstack hW (by rw [hb]; exact hdg)
    (fun vm₁ hW₁ => ⟨hf.1, hf.2, hPc (T.setVm vm₁) hT hW₁⟩)
  dsimp only [Pt.U, Pt.locs, Pt.cells, Pt.slots] at X' e1 e2 h1 h2 h3 st
  subst h1; subst h2; subst h3
  exact ⟨v, (T.setVm vm₁).calling g' mk (Value.ref b :: As).toArray, t, U', L, hT, X', hL, e1, e2, hq, st⟩
section
variable {y : MethodName} {bytes cc : ByteArray} {maxL nL mc ms n index : Nat} {ret : Option FieldType} {ws : List Cond} {rm : Room} {Pc : Array Value → State → Prop} {Qc : Array Value → State → Outcome → State → Prop} {XC : String → State → State → Prop} {free : Addr → Prop} {Ts : List Cond} {own C : String} {b : Addr} {As rest : List Value} {g : JFrame}
theorem vx_runVX {hh : List (Nat × Nat × Nat × Nat)} (S : CallFix p m c cc nL s args Ts own) (hM : vx_Met l y ws rm Pc Qc XC mc ms free) (cw : vx_CVW R s args own C index y bytes maxL ret hh ws rm mc ms n) (hp : PreV s H C b Pc As)
    (hg : g.method = m) (hn : As.length = n) (hsize : g.locals.size = nL) (hstack : g.stack = As.reverse ++ .ref b :: rest) (hW : 2 * g.monitorRoom + (rest.map fun v => v.category).sum ≤ 8) (hdg : decode cc g.pc = .ok (.invokevirtual index, 3)) (hf : cells + mc ≤ R.cells ∧ slots + ms ≤ R.slots) :
    vx_Run p l e R s m args below meth c H locs cells slots mc ms g rest (Qc (Value.ref b :: As).toArray) XC free := by
  obtain ⟨⟨hrc, hrs, hfr, hlo, hws, hcw⟩, hcode, hini, hy, hlen, hl, hin, hse⟩ := cw
  have hK : vx_Back l R p e below s args y 3 8 (PreOf R mc ms Pc) (PostOf Qc mc ms free) (vx_Post XC mc ms free) := vx_backW (hh := hh) (bytes := bytes) (maxL := maxL) (ret := ret) hM hp.1 hrc hrs hfr hlo hws hcw (fun a' U hW => word_at hW (Or.inl (by first | rfl | simp [Cond.onTables, Cond.keeps, Cond.steady])) hini)
  obtain ⟨hx, hb, hml, ho, -⟩ := S
  obtain ⟨-, ⟨cellB, hcB, hoB, hclB⟩, hPc⟩ := hp
  intro T hT X
  rcases vx_callVX X hx (C := C) (hh := hh) (bytes := bytes) (maxL := maxL) (ret := ret) ho hl hin hse hcode hy hK (by rw [hT]; exact hcB) hoB hclB hg (hsize.trans hml.symm) (argsL := As) (rest := rest) (fun sig h => hn.trans (hlen sig h)) hstack hW (by rw [hb]; exact hdg)
    (fun vm₁ hW₁ => ⟨hf.1, hf.2, hPc (T.setVm vm₁) hT hW₁⟩) with ⟨v, vm₁, ⟨U', l2, c2, s2⟩, hW₁, X', ⟨g', mk, t, L, e1, e2, hq, h1, hL, h2, h3⟩, st⟩ | ⟨q, vm₁, ⟨U', l2, c2, s2⟩, hW₁, X', ⟨g', mk, t, L, E, ce, e1, e2, hq, hce, hcv, hcl, h1, hL, h2, h3⟩, st⟩
  · dsimp only [Pt.U, Pt.locs, Pt.cells, Pt.slots] at X' e1 e2 h1 h2 h3 st
    subst h1; subst h2; subst h3
    exact Or.inl ⟨v, (T.setVm vm₁).calling g' mk (Value.ref b :: As).toArray, t, U', L, hT, X', hL, e1, e2, hq, st⟩
  · dsimp only [Pt.U, Pt.locs, Pt.cells, Pt.slots] at X' e1 e2 h1 h2 h3 st hcl
    subst h1; subst h2; subst h3
    exact Or.inr ⟨q, (T.setVm vm₁).calling g' mk (Value.ref b :: As).toArray, t, U', L, E, ce, hT, X', hL, e1, e2, hq, hce, hcv, vx_cls hW₁ hcl, st⟩
theorem vx_runSX {hh : List (Nat × Nat × Nat × Nat)} (S : CallFix p m c cc nL s args Ts own) (hM : vx_Met l y ws rm Pc Qc XC mc ms free) (cw : vx_CSW R s args own index y bytes maxL ret hh ws rm mc ms n) (hp : PreS s H Pc As)
    (hg : g.method = m) (hn : As.length = n) (hsize : g.locals.size = nL) (hstack : g.stack = As.reverse ++ rest) (hW : 2 * g.monitorRoom + (rest.map fun v => v.category).sum ≤ 8) (hdg : decode cc g.pc = .ok (.invokestatic index, 3)) (hf : cells + mc ≤ R.cells ∧ slots + ms ≤ R.slots) :
    vx_Run p l e R s m args below meth c H locs cells slots mc ms g rest (Qc As.toArray) XC free := by
  obtain ⟨⟨hrc, hrs, hfr, hlo, hws, hcw⟩, hcode, hini, hy, hlen, hl, hstt⟩ := cw
  have hK : vx_Back l R p e below s args y 3 8 (PreOf R mc ms Pc) (PostOf Qc mc ms free) (vx_Post XC mc ms free) := vx_backW (hh := hh) (bytes := bytes) (maxL := maxL) (ret := ret) hM hp.1 hrc hrs hfr hlo hws hcw (fun a' U hW => word_at hW (Or.inl (by first | rfl | simp [Cond.onTables, Cond.keeps, Cond.steady])) hini)
  obtain ⟨hx, hb, hml, ho, -⟩ := S
  intro T hT X
  rcases vx_callSX X hx (hh := hh) (bytes := bytes) (maxL := maxL) (ret := ret) ho hl hstt hini hcode hy hK hg (hsize.trans hml.symm) (argsL := As) (rest := rest) (fun sig h => hn.trans (hlen sig h)) hstack hW (by rw [hb]; exact hdg)
    (fun vm₁ hW₁ => ⟨hf.1, hf.2, hp.2 (T.setVm vm₁) hT hW₁⟩) with ⟨v, vm₁, ⟨U', l2, c2, s2⟩, hW₁, X', ⟨g', mk, t, L, e1, e2, hq, h1, hL, h2, h3⟩, st⟩ | ⟨q, vm₁, ⟨U', l2, c2, s2⟩, hW₁, X', ⟨g', mk, t, L, E, ce, e1, e2, hq, hce, hcv, hcl, h1, hL, h2, h3⟩, st⟩
  · dsimp only [Pt.U, Pt.locs, Pt.cells, Pt.slots] at X' e1 e2 h1 h2 h3 st
    subst h1; subst h2; subst h3
    exact Or.inl ⟨v, (T.setVm vm₁).calling g' mk As.toArray, t, U', L, hT, X', hL, e1, e2, hq, st⟩
  · dsimp only [Pt.U, Pt.locs, Pt.cells, Pt.slots] at X' e1 e2 h1 h2 h3 st hcl
    subst h1; subst h2; subst h3
    exact Or.inr ⟨q, (T.setVm vm₁).calling g' mk As.toArray, t, U', L, E, ce, hT, X', hL, e1, e2, hq, hce, hcv, vx_cls hW₁ hcl, st⟩
end
end VXH
theorem vx_ofWH {l : Launch} {y : MethodName} {ws ws' : List Cond} {rm : Room} {Pc : Array Value → State → Prop} {Qc : Array Value → State → Outcome → State → Prop} {XC : String → State → State → Prop} {mc ms : Nat} {free : Addr → Prop} {cc : ByteArray} {maxL : Nat} {ret : Option FieldType} {hh : List (Nat × Nat × Nat × Nat)}
    (hy : plainName y.cls = true) (hw : ws = Cond.codeWith y cc maxL ret hh :: ws')
    (body : ∀ p e s m args below meth c s₁, BodyLoose p l y (headSpec ws rm) cc maxL ret e s m args below meth c s₁ → c.maxLocals = maxL → Pc args s →
      W p l e (headSpec ws rm).room s m args below meth c s.heap [] 0 0 (vx_MQ below Qc XC args s mc ms free) (entryFrame m args maxL)) : vx_Met l y ws rm Pc Qc XC mc ms free := by
  refine MetFree.of_bodyS (code := cc) (maxLocals := maxL) (ret := ret) hy ?_ ?_
  · intro args s m h hn
    obtain ⟨m9, meth, c, hn9, h1, h2, h3, h4, -, h5, h6, -⟩ := Cond.codeWith_spec (atoms_spec (ws := ws) h _ (by rw [hw]; exact List.mem_cons_self))
    cases hn.symm.trans hn9
    exact ⟨meth, c, h1, h2, h3, h4, h5, h6⟩
  · intro p e s m args below meth c s₁ B hml hP _
    have hh0 : s₁.heap = s.heap := by rw [B.state]; rfl
    obtain ⟨t, a1, o, b1, b2, b3⟩ := body p e s m args below meth c s₁ B hml hP s₁ hh0 (Stand.of_body B)
    exact ⟨t, o, a1, b1, b2, b3⟩
/-! ===== END ===== -/
end
section
def RX0 : String := "FarScreen$BlockMove"
def TX0 : u_T := fun k => match k with
  | 0 => ("FarScreen$BlockMove", "fromX", "I", false)
  | 1 => ("FarScreen$BlockMove", "fromY", "I", false)
  | 2 => ("FarScreen$BlockMove", "columns", "I", false)
  | 3 => ("FarScreen$BlockMove", "rows", "I", false)
  | 4 => ("FarScreen$BlockMove", "toX", "I", false)
  | _ => ("FarScreen$BlockMove", "toY", "I", false)
def tyX0 : Nat → FieldType := fun k => match k with
  | 0 => .int
  | 1 => .int
  | 2 => .int
  | 3 => .int
  | 4 => .int
  | _ => .int
theorem nmX0 : ∀ a, a < 6 → ∀ b, b < 6 → a ≠ b → (TX0 a).2.1 ≠ (TX0 b).2.1 := by decide +kernel
theorem tyX0_ok : ∀ k, k < 6 → parseFieldDescriptor (TX0 k).2.2.1 = some (tyX0 k) := by decide +kernel
abbrev cX0_init : ByteArray := prog_2_method_1_code
def yX0_init : MethodName := ⟨RX0, "<init>", "()V"⟩
abbrev cX0_set : ByteArray := prog_2_method_2_code
def yX0_set : MethodName := ⟨RX0, "set", "(IIIIII)V"⟩
abbrev cX0_copyFrom : ByteArray := prog_2_method_3_code
def yX0_copyFrom : MethodName := ⟨RX0, "copyFrom", "(LFarScreen$BlockMove;)V"⟩
abbrev cX0_applyTo : ByteArray := prog_2_method_4_code
def yX0_applyTo : MethodName := ⟨RX0, "applyTo", "([I[I)V"⟩
def RX1 : String := "FarScreen$KnownRow"
def TX1 : u_T := fun k => match k with
  | 0 => ("FarScreen$KnownRow", "pictures", "[I", true)
  | _ => ("FarScreen$KnownRow", "count", "I", false)
def tyX1 : Nat → FieldType := fun k => match k with
  | 0 => .array .int
  | _ => .int
theorem nmX1 : ∀ a, a < 2 → ∀ b, b < 2 → a ≠ b → (TX1 a).2.1 ≠ (TX1 b).2.1 := by decide +kernel
theorem tyX1_ok : ∀ k, k < 2 → parseFieldDescriptor (TX1 k).2.2.1 = some (tyX1 k) := by decide +kernel
abbrev cX1_init : ByteArray := prog_3_method_1_code
def yX1_init : MethodName := ⟨RX1, "<init>", "()V"⟩
abbrev cX1_copyFrom : ByteArray := prog_3_method_2_code
def yX1_copyFrom : MethodName := ⟨RX1, "copyFrom", "(LFarScreen$KnownRow;)V"⟩
abbrev cX1_placeOf : ByteArray := prog_3_method_3_code
def yX1_placeOf : MethodName := ⟨RX1, "placeOf", "(I)I"⟩
abbrev cX1_holds : ByteArray := prog_3_method_4_code
def yX1_holds : MethodName := ⟨RX1, "holds", "(I)Z"⟩
abbrev cX1_meet : ByteArray := prog_3_method_5_code
def yX1_meet : MethodName := ⟨RX1, "meet", "(I)V"⟩
def RX2 : String := "FarScreen$Sender"
def TX2 : u_T := fun k => match k with
  | 0 => ("FarScreen$Sender", "nearTiles", "[I", true)
  | 1 => ("FarScreen$Sender", "farTiles", "[I", true)
  | 2 => ("FarScreen$Sender", "unlikeSince", "[I", true)
  | 3 => ("FarScreen$Sender", "changes", "[I", true)
  | 4 => ("FarScreen$Sender", "worths", "[I", true)
  | 5 => ("FarScreen$Sender", "order", "[I", true)
  | 6 => ("FarScreen$Sender", "before", "[I", true)
  | 7 => ("FarScreen$Sender", "moves", "[LFarScreen$BlockMove;", true)
  | 8 => ("FarScreen$Sender", "waitingMoves", "I", false)
  | 9 => ("FarScreen$Sender", "knownRow", "LFarScreen$KnownRow;", true)
  | 10 => ("FarScreen$Sender", "sentCounts", "[I", true)
  | 11 => ("FarScreen$Sender", "usedSoFar", "I", false)
  | 12 => ("FarScreen$Sender", "now", "I", false)
  | _ => ("FarScreen$Sender", "lookedAt", "I", false)
def tyX2 : Nat → FieldType := fun k => match k with
  | 0 => .array .int
  | 1 => .array .int
  | 2 => .array .int
  | 3 => .array .int
  | 4 => .array .int
  | 5 => .array .int
  | 6 => .array .int
  | 7 => .array (.object "FarScreen$BlockMove")
  | 8 => .int
  | 9 => .object "FarScreen$KnownRow"
  | 10 => .array .int
  | 11 => .int
  | 12 => .int
  | _ => .int
theorem nmX2 : ∀ a, a < 14 → ∀ b, b < 14 → a ≠ b → (TX2 a).2.1 ≠ (TX2 b).2.1 := by decide +kernel
theorem tyX2_ok : ∀ k, k < 14 → parseFieldDescriptor (TX2 k).2.2.1 = some (tyX2 k) := by decide +kernel
abbrev cX2_init : ByteArray := prog_4_method_1_code
def yX2_init : MethodName := ⟨RX2, "<init>", "()V"⟩
abbrev cX2_copyFrom : ByteArray := prog_4_method_2_code
def yX2_copyFrom : MethodName := ⟨RX2, "copyFrom", "(LFarScreen$Sender;)V"⟩
abbrev cX2_paint : ByteArray := prog_4_method_3_code
def yX2_paint : MethodName := ⟨RX2, "paint", "(IIIII)V"⟩
abbrev cX2_shift : ByteArray := prog_4_method_4_code
def yX2_shift : MethodName := ⟨RX2, "shift", "(IIIIII)V"⟩
abbrev cX2_noteChanges : ByteArray := prog_4_method_5_code
def yX2_noteChanges : MethodName := ⟨RX2, "noteChanges", "()V"⟩
abbrev cX2_noteUnlike : ByteArray := prog_4_method_6_code
def yX2_noteUnlike : MethodName := ⟨RX2, "noteUnlike", "()V"⟩
abbrev cX2_kindOf : ByteArray := prog_4_method_7_code
def yX2_kindOf : MethodName := ⟨RX2, "kindOf", "(I)I"⟩
abbrev cX2_hasFilm : ByteArray := prog_4_method_8_code
def yX2_hasFilm : MethodName := ⟨RX2, "hasFilm", "()Z"⟩
abbrev cX2_unlikeSet : ByteArray := prog_4_method_9_code
def yX2_unlikeSet : MethodName := ⟨RX2, "unlikeSet", "()J"⟩
abbrev cX2_countUnlike : ByteArray := prog_4_method_10_code
def yX2_countUnlike : MethodName := ⟨RX2, "countUnlike", "()I"⟩
abbrev cX2_countRough : ByteArray := prog_4_method_11_code
def yX2_countRough : MethodName := ⟨RX2, "countRough", "()I"⟩
abbrev cX2_isAllSent : ByteArray := prog_4_method_12_code
def yX2_isAllSent : MethodName := ⟨RX2, "isAllSent", "()Z"⟩
abbrev cX2_passStep : ByteArray := prog_4_method_13_code
def yX2_passStep : MethodName := ⟨RX2, "passStep", "(I)I"⟩
abbrev cX2_tellMoves : ByteArray := prog_4_method_14_code
def yX2_tellMoves : MethodName := ⟨RX2, "tellMoves", "(I)I"⟩
abbrev cX2_forgetMoves : ByteArray := prog_4_method_15_code
def yX2_forgetMoves : MethodName := ⟨RX2, "forgetMoves", "(I)V"⟩
abbrev cX2_sendTiles : ByteArray := prog_4_method_16_code
def yX2_sendTiles : MethodName := ⟨RX2, "sendTiles", "(I)I"⟩
abbrev cX2_putInOrder : ByteArray := prog_4_method_17_code
def yX2_putInOrder : MethodName := ⟨RX2, "putInOrder", "()I"⟩
abbrev cX2_insertInOrder : ByteArray := prog_4_method_18_code
def yX2_insertInOrder : MethodName := ⟨RX2, "insertInOrder", "(II)V"⟩
abbrev cX2_worthOf : ByteArray := prog_4_method_19_code
def yX2_worthOf : MethodName := ⟨RX2, "worthOf", "(I)I"⟩
abbrev cX2_isLookedAt : ByteArray := prog_4_method_20_code
def yX2_isLookedAt : MethodName := ⟨RX2, "isLookedAt", "(I)Z"⟩
abbrev cX2_sendTile : ByteArray := prog_4_method_21_code
def yX2_sendTile : MethodName := ⟨RX2, "sendTile", "(II)I"⟩
abbrev cX2_sendPicture : ByteArray := prog_4_method_22_code
def yX2_sendPicture : MethodName := ⟨RX2, "sendPicture", "(IIII)I"⟩
abbrev cX2_sendRoughly : ByteArray := prog_4_method_23_code
def yX2_sendRoughly : MethodName := ⟨RX2, "sendRoughly", "(II)I"⟩
abbrev cX2_settleChanges : ByteArray := prog_4_method_24_code
def yX2_settleChanges : MethodName := ⟨RX2, "settleChanges", "()V"⟩
def RX3 : String := "FarScreen"
def TX3 : u_T := fun k => match k with
  | 0 => ("FarScreen", "sender", "LFarScreen$Sender;", true)
  | _ => ("FarScreen", "trial", "LFarScreen$Sender;", true)
def tyX3 : Nat → FieldType := fun k => match k with
  | 0 => .object "FarScreen$Sender"
  | _ => .object "FarScreen$Sender"
theorem nmX3 : ∀ a, a < 2 → ∀ b, b < 2 → a ≠ b → (TX3 a).2.1 ≠ (TX3 b).2.1 := by decide +kernel
theorem tyX3_ok : ∀ k, k < 2 → parseFieldDescriptor (TX3 k).2.2.1 = some (tyX3 k) := by decide +kernel
abbrev cX3_init : ByteArray := prog_1_method_1_code
def yX3_init : MethodName := ⟨RX3, "<init>", "()V"⟩
abbrev cX3_fill : ByteArray := prog_1_method_2_code
def yX3_fill : MethodName := ⟨RX3, "fill", "(IIIII)I"⟩
abbrev cX3_move : ByteArray := prog_1_method_3_code
def yX3_move : MethodName := ⟨RX3, "move", "(IIIIII)I"⟩
abbrev cX3_look : ByteArray := prog_1_method_4_code
def yX3_look : MethodName := ⟨RX3, "look", "(II)I"⟩
abbrev cX3_step : ByteArray := prog_1_method_5_code
def yX3_step : MethodName := ⟨RX3, "step", "(I)I"⟩
abbrev cX3_time : ByteArray := prog_1_method_6_code
def yX3_time : MethodName := ⟨RX3, "time", "()I"⟩
abbrev cX3_near : ByteArray := prog_1_method_7_code
def yX3_near : MethodName := ⟨RX3, "near", "(II)I"⟩
abbrev cX3_far : ByteArray := prog_1_method_8_code
def yX3_far : MethodName := ⟨RX3, "far", "(II)I"⟩
abbrev cX3_kind : ByteArray := prog_1_method_9_code
def yX3_kind : MethodName := ⟨RX3, "kind", "(II)I"⟩
abbrev cX3_since : ByteArray := prog_1_method_10_code
def yX3_since : MethodName := ⟨RX3, "since", "(II)I"⟩
abbrev cX3_unlike : ByteArray := prog_1_method_11_code
def yX3_unlike : MethodName := ⟨RX3, "unlike", "()J"⟩
abbrev cX3_rough : ByteArray := prog_1_method_12_code
def yX3_rough : MethodName := ⟨RX3, "rough", "()I"⟩
abbrev cX3_waiting : ByteArray := prog_1_method_13_code
def yX3_waiting : MethodName := ⟨RX3, "waiting", "()I"⟩
abbrev cX3_known : ByteArray := prog_1_method_14_code
def yX3_known : MethodName := ⟨RX3, "known", "(I)I"⟩
abbrev cX3_knownPictures : ByteArray := prog_1_method_15_code
def yX3_knownPictures : MethodName := ⟨RX3, "knownPictures", "()I"⟩
abbrev cX3_sent : ByteArray := prog_1_method_16_code
def yX3_sent : MethodName := ⟨RX3, "sent", "(I)I"⟩
abbrev cX3_used : ByteArray := prog_1_method_17_code
def yX3_used : MethodName := ⟨RX3, "used", "()I"⟩
abbrev cX3_anew : ByteArray := prog_1_method_18_code
def yX3_anew : MethodName := ⟨RX3, "anew", "()I"⟩
abbrev cX3_stepsToGo : ByteArray := prog_1_method_19_code
def yX3_stepsToGo : MethodName := ⟨RX3, "stepsToGo", "(I)I"⟩
abbrev cX3_checkTile : ByteArray := prog_1_method_20_code
def yX3_checkTile : MethodName := ⟨RX3, "checkTile", "(II)V"⟩
abbrev cX3_checkBlock : ByteArray := prog_1_method_21_code
def yX3_checkBlock : MethodName := ⟨RX3, "checkBlock", "(IIII)V"⟩
abbrev cX3_checkBudget : ByteArray := prog_1_method_22_code
def yX3_checkBudget : MethodName := ⟨RX3, "checkBudget", "(I)V"⟩
abbrev cX3_tileAt : ByteArray := prog_1_method_23_code
def yX3_tileAt : MethodName := ⟨RX3, "tileAt", "(II)I"⟩
abbrev cX3_wholeCost : ByteArray := prog_1_method_24_code
def yX3_wholeCost : MethodName := ⟨RX3, "wholeCost", "(I)I"⟩
def RJ6 : String := "java/lang/Integer"
def TJ6 : u_T := fun k => match k with
  | _ => ("", "", "", false)
def tyJ6 : Nat → FieldType := fun k => match k with
  | _ => .int
theorem nmJ6 : ∀ a, a < 0 → ∀ b, b < 0 → a ≠ b → (TJ6 a).2.1 ≠ (TJ6 b).2.1 := by decide +kernel
theorem tyJ6_ok : ∀ k, k < 0 → parseFieldDescriptor (TJ6 k).2.2.1 = some (tyJ6 k) := by decide +kernel
abbrev cJ6_bitCount_0f7a4 : ByteArray := prog_10_method_49_code
def yJ6_bitCount_0f7a4 : MethodName := ⟨RJ6, "bitCount", "(I)I"⟩
def RJ13 : String := "java/lang/Long"
def TJ13 : u_T := fun k => match k with
  | _ => ("", "", "", false)
def tyJ13 : Nat → FieldType := fun k => match k with
  | _ => .int
theorem nmJ13 : ∀ a, a < 0 → ∀ b, b < 0 → a ≠ b → (TJ13 a).2.1 ≠ (TJ13 b).2.1 := by decide +kernel
theorem tyJ13_ok : ∀ k, k < 0 → parseFieldDescriptor (TJ13 k).2.2.1 = some (tyJ13 k) := by decide +kernel
abbrev cJ13_bitCount_95d88 : ByteArray := prog_11_method_50_code
def yJ13_bitCount_95d88 : MethodName := ⟨RJ13, "bitCount", "(J)I"⟩
def RJ9 : String := "java/lang/Math"
def TJ9 : u_T := fun k => match k with
  | _ => ("", "", "", false)
def tyJ9 : Nat → FieldType := fun k => match k with
  | _ => .int
theorem nmJ9 : ∀ a, a < 0 → ∀ b, b < 0 → a ≠ b → (TJ9 a).2.1 ≠ (TJ9 b).2.1 := by decide +kernel
theorem tyJ9_ok : ∀ k, k < 0 → parseFieldDescriptor (TJ9 k).2.2.1 = some (tyJ9 k) := by decide +kernel
abbrev cJ9_abs_0f7a4 : ByteArray := prog_12_method_59_code
def yJ9_abs_0f7a4 : MethodName := ⟨RJ9, "abs", "(I)I"⟩
def RL : String := "FarScreenLaw"
abbrev cL_cell : ByteArray := method_2_code
def yL_cell : MethodName := ⟨RL, "cell", "([II)I"⟩
abbrev cL_low : ByteArray := method_3_code
def yL_low : MethodName := ⟨RL, "low", "(II)I"⟩
abbrev cL_kind : ByteArray := method_4_code
def yL_kind : MethodName := ⟨RL, "kind", "(I[I[I)I"⟩
abbrev cL_like : ByteArray := method_5_code
def yL_like : MethodName := ⟨RL, "like", "(I[I[I[I[I)V"⟩
abbrev cL_draw : ByteArray := method_6_code
def yL_draw : MethodName := ⟨RL, "draw", "(II[I[I[I[I[I)V"⟩
abbrev cL_shift : ByteArray := method_7_code
def yL_shift : MethodName := ⟨RL, "shift", "([I[II)V"⟩
abbrev cL_meet : ByteArray := method_8_code
def yL_meet : MethodName := ⟨RL, "meet", "(I[IZ)I"⟩
abbrev cL_step : ByteArray := method_9_code
def yL_step : MethodName := ⟨RL, "step", "(I[I[I[I[I[I[I[I)I"⟩
abbrev cL_refused : ByteArray := method_10_code
def yL_refused : MethodName := ⟨RL, "refused", "(LFarScreen;III)I"⟩
abbrev cL_same : ByteArray := method_11_code
def yL_same : MethodName := ⟨RL, "same", "(LFarScreen;[I[I[I[I[I[I)Z"⟩
abbrev cL_law : ByteArray := code
def yL_law : MethodName := ⟨RL, "law", "([I)Z"⟩
end
section
theorem dX0_init_0 : decode cX0_init 0 = .ok (.aload_n 0, 1) := by decide +kernel
theorem dX0_init_1 : decode cX0_init 1 = .ok (.invokespecial 3, 3) := by decide +kernel
theorem dX0_init_4 : decode cX0_init 4 = .ok (.return_, 1) := by decide +kernel
theorem dX0_set_0 : decode cX0_set 0 = .ok (.aload_n 0, 1) := by decide +kernel
theorem dX0_set_1 : decode cX0_set 1 = .ok (.iload_n 1, 1) := by decide +kernel
theorem dX0_set_2 : decode cX0_set 2 = .ok (.putfield 9, 3) := by decide +kernel
theorem dX0_set_5 : decode cX0_set 5 = .ok (.aload_n 0, 1) := by decide +kernel
theorem dX0_set_6 : decode cX0_set 6 = .ok (.iload_n 2, 1) := by decide +kernel
theorem dX0_set_7 : decode cX0_set 7 = .ok (.putfield 15, 3) := by decide +kernel
theorem dX0_set_10 : decode cX0_set 10 = .ok (.aload_n 0, 1) := by decide +kernel
theorem dX0_set_11 : decode cX0_set 11 = .ok (.iload_n 3, 1) := by decide +kernel
theorem dX0_set_12 : decode cX0_set 12 = .ok (.putfield 18, 3) := by decide +kernel
theorem dX0_set_15 : decode cX0_set 15 = .ok (.aload_n 0, 1) := by decide +kernel
theorem dX0_set_16 : decode cX0_set 16 = .ok (.iload 4, 2) := by decide +kernel
theorem dX0_set_18 : decode cX0_set 18 = .ok (.putfield 21, 3) := by decide +kernel
theorem dX0_set_21 : decode cX0_set 21 = .ok (.aload_n 0, 1) := by decide +kernel
theorem dX0_set_22 : decode cX0_set 22 = .ok (.iload 5, 2) := by decide +kernel
theorem dX0_set_24 : decode cX0_set 24 = .ok (.putfield 24, 3) := by decide +kernel
theorem dX0_set_27 : decode cX0_set 27 = .ok (.aload_n 0, 1) := by decide +kernel
theorem dX0_set_28 : decode cX0_set 28 = .ok (.iload 6, 2) := by decide +kernel
theorem dX0_set_30 : decode cX0_set 30 = .ok (.putfield 27, 3) := by decide +kernel
theorem dX0_set_33 : decode cX0_set 33 = .ok (.return_, 1) := by decide +kernel
theorem dX0_copyFrom_0 : decode cX0_copyFrom 0 = .ok (.aload_n 0, 1) := by decide +kernel
theorem dX0_copyFrom_1 : decode cX0_copyFrom 1 = .ok (.aload_n 1, 1) := by decide +kernel
theorem dX0_copyFrom_2 : decode cX0_copyFrom 2 = .ok (.getfield 9, 3) := by decide +kernel
theorem dX0_copyFrom_5 : decode cX0_copyFrom 5 = .ok (.aload_n 1, 1) := by decide +kernel
theorem dX0_copyFrom_6 : decode cX0_copyFrom 6 = .ok (.getfield 15, 3) := by decide +kernel
theorem dX0_copyFrom_9 : decode cX0_copyFrom 9 = .ok (.aload_n 1, 1) := by decide +kernel
theorem dX0_copyFrom_10 : decode cX0_copyFrom 10 = .ok (.getfield 18, 3) := by decide +kernel
theorem dX0_copyFrom_13 : decode cX0_copyFrom 13 = .ok (.aload_n 1, 1) := by decide +kernel
theorem dX0_copyFrom_14 : decode cX0_copyFrom 14 = .ok (.getfield 21, 3) := by decide +kernel
theorem dX0_copyFrom_17 : decode cX0_copyFrom 17 = .ok (.aload_n 1, 1) := by decide +kernel
theorem dX0_copyFrom_18 : decode cX0_copyFrom 18 = .ok (.getfield 24, 3) := by decide +kernel
theorem dX0_copyFrom_21 : decode cX0_copyFrom 21 = .ok (.aload_n 1, 1) := by decide +kernel
theorem dX0_copyFrom_22 : decode cX0_copyFrom 22 = .ok (.getfield 27, 3) := by decide +kernel
theorem dX0_copyFrom_25 : decode cX0_copyFrom 25 = .ok (.invokevirtual 30, 3) := by decide +kernel
theorem dX0_copyFrom_28 : decode cX0_copyFrom 28 = .ok (.return_, 1) := by decide +kernel
theorem dX0_applyTo_0 : decode cX0_applyTo 0 = .ok (.aload_n 1, 1) := by decide +kernel
theorem dX0_applyTo_1 : decode cX0_applyTo 1 = .ok (.iconst 0, 1) := by decide +kernel
theorem dX0_applyTo_2 : decode cX0_applyTo 2 = .ok (.aload_n 2, 1) := by decide +kernel
theorem dX0_applyTo_3 : decode cX0_applyTo 3 = .ok (.iconst 0, 1) := by decide +kernel
theorem dX0_applyTo_4 : decode cX0_applyTo 4 = .ok (.bipush 48, 2) := by decide +kernel
theorem dX0_applyTo_6 : decode cX0_applyTo 6 = .ok (.invokestatic 34, 3) := by decide +kernel
theorem dX0_applyTo_9 : decode cX0_applyTo 9 = .ok (.iconst 0, 1) := by decide +kernel
theorem dX0_applyTo_10 : decode cX0_applyTo 10 = .ok (.istore_n 3, 1) := by decide +kernel
theorem dX0_applyTo_11 : decode cX0_applyTo 11 = .ok (.iload_n 3, 1) := by decide +kernel
theorem dX0_applyTo_12 : decode cX0_applyTo 12 = .ok (.aload_n 0, 1) := by decide +kernel
theorem dX0_applyTo_13 : decode cX0_applyTo 13 = .ok (.getfield 21, 3) := by decide +kernel
theorem dX0_applyTo_16 : decode cX0_applyTo 16 = .ok (.if_icmp .ge 63, 3) := by decide +kernel
theorem dX0_applyTo_19 : decode cX0_applyTo 19 = .ok (.iconst 0, 1) := by decide +kernel
theorem dX0_applyTo_20 : decode cX0_applyTo 20 = .ok (.istore 4, 2) := by decide +kernel
theorem dX0_applyTo_22 : decode cX0_applyTo 22 = .ok (.iload 4, 2) := by decide +kernel
theorem dX0_applyTo_24 : decode cX0_applyTo 24 = .ok (.aload_n 0, 1) := by decide +kernel
theorem dX0_applyTo_25 : decode cX0_applyTo 25 = .ok (.getfield 18, 3) := by decide +kernel
theorem dX0_applyTo_28 : decode cX0_applyTo 28 = .ok (.if_icmp .ge 45, 3) := by decide +kernel
theorem dX0_applyTo_31 : decode cX0_applyTo 31 = .ok (.aload_n 1, 1) := by decide +kernel
theorem dX0_applyTo_32 : decode cX0_applyTo 32 = .ok (.aload_n 0, 1) := by decide +kernel
theorem dX0_applyTo_33 : decode cX0_applyTo 33 = .ok (.getfield 24, 3) := by decide +kernel
theorem dX0_applyTo_36 : decode cX0_applyTo 36 = .ok (.iload 4, 2) := by decide +kernel
theorem dX0_applyTo_38 : decode cX0_applyTo 38 = .ok (.iadd, 1) := by decide +kernel
theorem dX0_applyTo_39 : decode cX0_applyTo 39 = .ok (.aload_n 0, 1) := by decide +kernel
theorem dX0_applyTo_40 : decode cX0_applyTo 40 = .ok (.getfield 27, 3) := by decide +kernel
theorem dX0_applyTo_43 : decode cX0_applyTo 43 = .ok (.iload_n 3, 1) := by decide +kernel
theorem dX0_applyTo_44 : decode cX0_applyTo 44 = .ok (.iadd, 1) := by decide +kernel
theorem dX0_applyTo_45 : decode cX0_applyTo 45 = .ok (.invokestatic 40, 3) := by decide +kernel
theorem dX0_applyTo_48 : decode cX0_applyTo 48 = .ok (.aload_n 2, 1) := by decide +kernel
theorem dX0_applyTo_49 : decode cX0_applyTo 49 = .ok (.aload_n 0, 1) := by decide +kernel
theorem dX0_applyTo_50 : decode cX0_applyTo 50 = .ok (.getfield 9, 3) := by decide +kernel
theorem dX0_applyTo_53 : decode cX0_applyTo 53 = .ok (.iload 4, 2) := by decide +kernel
theorem dX0_applyTo_55 : decode cX0_applyTo 55 = .ok (.iadd, 1) := by decide +kernel
theorem dX0_applyTo_56 : decode cX0_applyTo 56 = .ok (.aload_n 0, 1) := by decide +kernel
theorem dX0_applyTo_57 : decode cX0_applyTo 57 = .ok (.getfield 15, 3) := by decide +kernel
theorem dX0_applyTo_60 : decode cX0_applyTo 60 = .ok (.iload_n 3, 1) := by decide +kernel
theorem dX0_applyTo_61 : decode cX0_applyTo 61 = .ok (.iadd, 1) := by decide +kernel
theorem dX0_applyTo_62 : decode cX0_applyTo 62 = .ok (.invokestatic 40, 3) := by decide +kernel
theorem dX0_applyTo_65 : decode cX0_applyTo 65 = .ok (.iaload, 1) := by decide +kernel
theorem dX0_applyTo_66 : decode cX0_applyTo 66 = .ok (.iastore, 1) := by decide +kernel
theorem dX0_applyTo_67 : decode cX0_applyTo 67 = .ok (.iinc 4 1, 3) := by decide +kernel
theorem dX0_applyTo_70 : decode cX0_applyTo 70 = .ok (.goto (-48), 3) := by decide +kernel
theorem dX0_applyTo_73 : decode cX0_applyTo 73 = .ok (.iinc 3 1, 3) := by decide +kernel
theorem dX0_applyTo_76 : decode cX0_applyTo 76 = .ok (.goto (-65), 3) := by decide +kernel
theorem dX0_applyTo_79 : decode cX0_applyTo 79 = .ok (.return_, 1) := by decide +kernel
theorem dX1_init_0 : decode cX1_init 0 = .ok (.aload_n 0, 1) := by decide +kernel
theorem dX1_init_1 : decode cX1_init 1 = .ok (.invokespecial 3, 3) := by decide +kernel
theorem dX1_init_4 : decode cX1_init 4 = .ok (.aload_n 0, 1) := by decide +kernel
theorem dX1_init_5 : decode cX1_init 5 = .ok (.bipush 8, 2) := by decide +kernel
theorem dX1_init_7 : decode cX1_init 7 = .ok (.newarray .int, 2) := by decide +kernel
theorem dX1_init_9 : decode cX1_init 9 = .ok (.putfield 9, 3) := by decide +kernel
theorem dX1_init_12 : decode cX1_init 12 = .ok (.aload_n 0, 1) := by decide +kernel
theorem dX1_init_13 : decode cX1_init 13 = .ok (.iconst 0, 1) := by decide +kernel
theorem dX1_init_14 : decode cX1_init 14 = .ok (.putfield 15, 3) := by decide +kernel
theorem dX1_init_17 : decode cX1_init 17 = .ok (.return_, 1) := by decide +kernel
theorem dX1_copyFrom_0 : decode cX1_copyFrom 0 = .ok (.aload_n 1, 1) := by decide +kernel
theorem dX1_copyFrom_1 : decode cX1_copyFrom 1 = .ok (.getfield 9, 3) := by decide +kernel
theorem dX1_copyFrom_4 : decode cX1_copyFrom 4 = .ok (.iconst 0, 1) := by decide +kernel
theorem dX1_copyFrom_5 : decode cX1_copyFrom 5 = .ok (.aload_n 0, 1) := by decide +kernel
theorem dX1_copyFrom_6 : decode cX1_copyFrom 6 = .ok (.getfield 9, 3) := by decide +kernel
theorem dX1_copyFrom_9 : decode cX1_copyFrom 9 = .ok (.iconst 0, 1) := by decide +kernel
theorem dX1_copyFrom_10 : decode cX1_copyFrom 10 = .ok (.bipush 8, 2) := by decide +kernel
theorem dX1_copyFrom_12 : decode cX1_copyFrom 12 = .ok (.invokestatic 19, 3) := by decide +kernel
theorem dX1_copyFrom_15 : decode cX1_copyFrom 15 = .ok (.aload_n 0, 1) := by decide +kernel
theorem dX1_copyFrom_16 : decode cX1_copyFrom 16 = .ok (.aload_n 1, 1) := by decide +kernel
theorem dX1_copyFrom_17 : decode cX1_copyFrom 17 = .ok (.getfield 15, 3) := by decide +kernel
theorem dX1_copyFrom_20 : decode cX1_copyFrom 20 = .ok (.putfield 15, 3) := by decide +kernel
theorem dX1_copyFrom_23 : decode cX1_copyFrom 23 = .ok (.return_, 1) := by decide +kernel
theorem dX1_placeOf_0 : decode cX1_placeOf 0 = .ok (.iconst 0, 1) := by decide +kernel
theorem dX1_placeOf_1 : decode cX1_placeOf 1 = .ok (.istore_n 2, 1) := by decide +kernel
theorem dX1_placeOf_2 : decode cX1_placeOf 2 = .ok (.iload_n 2, 1) := by decide +kernel
theorem dX1_placeOf_3 : decode cX1_placeOf 3 = .ok (.aload_n 0, 1) := by decide +kernel
theorem dX1_placeOf_4 : decode cX1_placeOf 4 = .ok (.getfield 15, 3) := by decide +kernel
theorem dX1_placeOf_7 : decode cX1_placeOf 7 = .ok (.if_icmp .ge 21, 3) := by decide +kernel
theorem dX1_placeOf_10 : decode cX1_placeOf 10 = .ok (.aload_n 0, 1) := by decide +kernel
theorem dX1_placeOf_11 : decode cX1_placeOf 11 = .ok (.getfield 9, 3) := by decide +kernel
theorem dX1_placeOf_14 : decode cX1_placeOf 14 = .ok (.iload_n 2, 1) := by decide +kernel
theorem dX1_placeOf_15 : decode cX1_placeOf 15 = .ok (.iaload, 1) := by decide +kernel
theorem dX1_placeOf_16 : decode cX1_placeOf 16 = .ok (.iload_n 1, 1) := by decide +kernel
theorem dX1_placeOf_17 : decode cX1_placeOf 17 = .ok (.if_icmp .ne 5, 3) := by decide +kernel
theorem dX1_placeOf_20 : decode cX1_placeOf 20 = .ok (.iload_n 2, 1) := by decide +kernel
theorem dX1_placeOf_21 : decode cX1_placeOf 21 = .ok (.ireturn, 1) := by decide +kernel
theorem dX1_placeOf_22 : decode cX1_placeOf 22 = .ok (.iinc 2 1, 3) := by decide +kernel
theorem dX1_placeOf_25 : decode cX1_placeOf 25 = .ok (.goto (-23), 3) := by decide +kernel
theorem dX1_placeOf_28 : decode cX1_placeOf 28 = .ok (.iconst (-1), 1) := by decide +kernel
theorem dX1_placeOf_29 : decode cX1_placeOf 29 = .ok (.ireturn, 1) := by decide +kernel
theorem dX1_holds_0 : decode cX1_holds 0 = .ok (.aload_n 0, 1) := by decide +kernel
theorem dX1_holds_1 : decode cX1_holds 1 = .ok (.iload_n 1, 1) := by decide +kernel
theorem dX1_holds_2 : decode cX1_holds 2 = .ok (.invokevirtual 25, 3) := by decide +kernel
theorem dX1_holds_5 : decode cX1_holds 5 = .ok (.iconst (-1), 1) := by decide +kernel
theorem dX1_holds_6 : decode cX1_holds 6 = .ok (.if_icmp .eq 7, 3) := by decide +kernel
theorem dX1_holds_9 : decode cX1_holds 9 = .ok (.iconst 1, 1) := by decide +kernel
theorem dX1_holds_10 : decode cX1_holds 10 = .ok (.goto 4, 3) := by decide +kernel
theorem dX1_holds_13 : decode cX1_holds 13 = .ok (.iconst 0, 1) := by decide +kernel
theorem dX1_holds_14 : decode cX1_holds 14 = .ok (.ireturn, 1) := by decide +kernel
theorem dX1_meet_0 : decode cX1_meet 0 = .ok (.aload_n 0, 1) := by decide +kernel
theorem dX1_meet_1 : decode cX1_meet 1 = .ok (.iload_n 1, 1) := by decide +kernel
theorem dX1_meet_2 : decode cX1_meet 2 = .ok (.invokevirtual 25, 3) := by decide +kernel
theorem dX1_meet_5 : decode cX1_meet 5 = .ok (.istore_n 2, 1) := by decide +kernel
theorem dX1_meet_6 : decode cX1_meet 6 = .ok (.iload_n 2, 1) := by decide +kernel
theorem dX1_meet_7 : decode cX1_meet 7 = .ok (.iconst (-1), 1) := by decide +kernel
theorem dX1_meet_8 : decode cX1_meet 8 = .ok (.if_icmp .ne 29, 3) := by decide +kernel
theorem dX1_meet_11 : decode cX1_meet 11 = .ok (.aload_n 0, 1) := by decide +kernel
theorem dX1_meet_12 : decode cX1_meet 12 = .ok (.getfield 15, 3) := by decide +kernel
theorem dX1_meet_15 : decode cX1_meet 15 = .ok (.bipush 8, 2) := by decide +kernel
theorem dX1_meet_17 : decode cX1_meet 17 = .ok (.if_icmp .ge 13, 3) := by decide +kernel
theorem dX1_meet_20 : decode cX1_meet 20 = .ok (.aload_n 0, 1) := by decide +kernel
theorem dX1_meet_21 : decode cX1_meet 21 = .ok (.dup, 1) := by decide +kernel
theorem dX1_meet_22 : decode cX1_meet 22 = .ok (.getfield 15, 3) := by decide +kernel
theorem dX1_meet_25 : decode cX1_meet 25 = .ok (.iconst 1, 1) := by decide +kernel
theorem dX1_meet_26 : decode cX1_meet 26 = .ok (.iadd, 1) := by decide +kernel
theorem dX1_meet_27 : decode cX1_meet 27 = .ok (.putfield 15, 3) := by decide +kernel
theorem dX1_meet_30 : decode cX1_meet 30 = .ok (.aload_n 0, 1) := by decide +kernel
theorem dX1_meet_31 : decode cX1_meet 31 = .ok (.getfield 15, 3) := by decide +kernel
theorem dX1_meet_34 : decode cX1_meet 34 = .ok (.iconst 1, 1) := by decide +kernel
theorem dX1_meet_35 : decode cX1_meet 35 = .ok (.isub, 1) := by decide +kernel
theorem dX1_meet_36 : decode cX1_meet 36 = .ok (.istore_n 2, 1) := by decide +kernel
theorem dX1_meet_37 : decode cX1_meet 37 = .ok (.iload_n 2, 1) := by decide +kernel
theorem dX1_meet_38 : decode cX1_meet 38 = .ok (.istore_n 3, 1) := by decide +kernel
theorem dX1_meet_39 : decode cX1_meet 39 = .ok (.iload_n 3, 1) := by decide +kernel
theorem dX1_meet_40 : decode cX1_meet 40 = .ok (.ifCond .le 23, 3) := by decide +kernel
theorem dX1_meet_43 : decode cX1_meet 43 = .ok (.aload_n 0, 1) := by decide +kernel
theorem dX1_meet_44 : decode cX1_meet 44 = .ok (.getfield 9, 3) := by decide +kernel
theorem dX1_meet_47 : decode cX1_meet 47 = .ok (.iload_n 3, 1) := by decide +kernel
theorem dX1_meet_48 : decode cX1_meet 48 = .ok (.aload_n 0, 1) := by decide +kernel
theorem dX1_meet_49 : decode cX1_meet 49 = .ok (.getfield 9, 3) := by decide +kernel
theorem dX1_meet_52 : decode cX1_meet 52 = .ok (.iload_n 3, 1) := by decide +kernel
theorem dX1_meet_53 : decode cX1_meet 53 = .ok (.iconst 1, 1) := by decide +kernel
theorem dX1_meet_54 : decode cX1_meet 54 = .ok (.isub, 1) := by decide +kernel
theorem dX1_meet_55 : decode cX1_meet 55 = .ok (.iaload, 1) := by decide +kernel
theorem dX1_meet_56 : decode cX1_meet 56 = .ok (.iastore, 1) := by decide +kernel
theorem dX1_meet_57 : decode cX1_meet 57 = .ok (.iinc 3 (-1), 3) := by decide +kernel
theorem dX1_meet_60 : decode cX1_meet 60 = .ok (.goto (-21), 3) := by decide +kernel
theorem dX1_meet_63 : decode cX1_meet 63 = .ok (.aload_n 0, 1) := by decide +kernel
theorem dX1_meet_64 : decode cX1_meet 64 = .ok (.getfield 9, 3) := by decide +kernel
theorem dX1_meet_67 : decode cX1_meet 67 = .ok (.iconst 0, 1) := by decide +kernel
theorem dX1_meet_68 : decode cX1_meet 68 = .ok (.iload_n 1, 1) := by decide +kernel
theorem dX1_meet_69 : decode cX1_meet 69 = .ok (.iastore, 1) := by decide +kernel
theorem dX1_meet_70 : decode cX1_meet 70 = .ok (.return_, 1) := by decide +kernel
theorem dX2_init_0 : decode cX2_init 0 = .ok (.aload_n 0, 1) := by decide +kernel
theorem dX2_init_1 : decode cX2_init 1 = .ok (.invokespecial 3, 3) := by decide +kernel
theorem dX2_init_4 : decode cX2_init 4 = .ok (.aload_n 0, 1) := by decide +kernel
theorem dX2_init_5 : decode cX2_init 5 = .ok (.bipush 48, 2) := by decide +kernel
theorem dX2_init_7 : decode cX2_init 7 = .ok (.newarray .int, 2) := by decide +kernel
theorem dX2_init_9 : decode cX2_init 9 = .ok (.putfield 9, 3) := by decide +kernel
theorem dX2_init_12 : decode cX2_init 12 = .ok (.aload_n 0, 1) := by decide +kernel
theorem dX2_init_13 : decode cX2_init 13 = .ok (.bipush 48, 2) := by decide +kernel
theorem dX2_init_15 : decode cX2_init 15 = .ok (.newarray .int, 2) := by decide +kernel
theorem dX2_init_17 : decode cX2_init 17 = .ok (.putfield 15, 3) := by decide +kernel
theorem dX2_init_20 : decode cX2_init 20 = .ok (.aload_n 0, 1) := by decide +kernel
theorem dX2_init_21 : decode cX2_init 21 = .ok (.bipush 48, 2) := by decide +kernel
theorem dX2_init_23 : decode cX2_init 23 = .ok (.newarray .int, 2) := by decide +kernel
theorem dX2_init_25 : decode cX2_init 25 = .ok (.putfield 18, 3) := by decide +kernel
theorem dX2_init_28 : decode cX2_init 28 = .ok (.aload_n 0, 1) := by decide +kernel
theorem dX2_init_29 : decode cX2_init 29 = .ok (.bipush 48, 2) := by decide +kernel
theorem dX2_init_31 : decode cX2_init 31 = .ok (.newarray .int, 2) := by decide +kernel
theorem dX2_init_33 : decode cX2_init 33 = .ok (.putfield 21, 3) := by decide +kernel
theorem dX2_init_36 : decode cX2_init 36 = .ok (.aload_n 0, 1) := by decide +kernel
theorem dX2_init_37 : decode cX2_init 37 = .ok (.bipush 48, 2) := by decide +kernel
theorem dX2_init_39 : decode cX2_init 39 = .ok (.newarray .int, 2) := by decide +kernel
theorem dX2_init_41 : decode cX2_init 41 = .ok (.putfield 24, 3) := by decide +kernel
theorem dX2_init_44 : decode cX2_init 44 = .ok (.aload_n 0, 1) := by decide +kernel
theorem dX2_init_45 : decode cX2_init 45 = .ok (.bipush 48, 2) := by decide +kernel
theorem dX2_init_47 : decode cX2_init 47 = .ok (.newarray .int, 2) := by decide +kernel
theorem dX2_init_49 : decode cX2_init 49 = .ok (.putfield 27, 3) := by decide +kernel
theorem dX2_init_52 : decode cX2_init 52 = .ok (.aload_n 0, 1) := by decide +kernel
theorem dX2_init_53 : decode cX2_init 53 = .ok (.bipush 48, 2) := by decide +kernel
theorem dX2_init_55 : decode cX2_init 55 = .ok (.newarray .int, 2) := by decide +kernel
theorem dX2_init_57 : decode cX2_init 57 = .ok (.putfield 30, 3) := by decide +kernel
theorem dX2_init_60 : decode cX2_init 60 = .ok (.aload_n 0, 1) := by decide +kernel
theorem dX2_init_61 : decode cX2_init 61 = .ok (.iconst 5, 1) := by decide +kernel
theorem dX2_init_62 : decode cX2_init 62 = .ok (.anewarray 33, 3) := by decide +kernel
theorem dX2_init_65 : decode cX2_init 65 = .ok (.putfield 35, 3) := by decide +kernel
theorem dX2_init_68 : decode cX2_init 68 = .ok (.aload_n 0, 1) := by decide +kernel
theorem dX2_init_69 : decode cX2_init 69 = .ok (.iconst 0, 1) := by decide +kernel
theorem dX2_init_70 : decode cX2_init 70 = .ok (.putfield 39, 3) := by decide +kernel
theorem dX2_init_73 : decode cX2_init 73 = .ok (.aload_n 0, 1) := by decide +kernel
theorem dX2_init_74 : decode cX2_init 74 = .ok (.new 43, 3) := by decide +kernel
theorem dX2_init_77 : decode cX2_init 77 = .ok (.dup, 1) := by decide +kernel
theorem dX2_init_78 : decode cX2_init 78 = .ok (.invokespecial 45, 3) := by decide +kernel
theorem dX2_init_81 : decode cX2_init 81 = .ok (.putfield 46, 3) := by decide +kernel
theorem dX2_init_84 : decode cX2_init 84 = .ok (.aload_n 0, 1) := by decide +kernel
theorem dX2_init_85 : decode cX2_init 85 = .ok (.iconst 4, 1) := by decide +kernel
theorem dX2_init_86 : decode cX2_init 86 = .ok (.newarray .int, 2) := by decide +kernel
theorem dX2_init_88 : decode cX2_init 88 = .ok (.putfield 50, 3) := by decide +kernel
theorem dX2_init_91 : decode cX2_init 91 = .ok (.aload_n 0, 1) := by decide +kernel
theorem dX2_init_92 : decode cX2_init 92 = .ok (.iconst 0, 1) := by decide +kernel
theorem dX2_init_93 : decode cX2_init 93 = .ok (.putfield 53, 3) := by decide +kernel
theorem dX2_init_96 : decode cX2_init 96 = .ok (.aload_n 0, 1) := by decide +kernel
theorem dX2_init_97 : decode cX2_init 97 = .ok (.iconst 0, 1) := by decide +kernel
theorem dX2_init_98 : decode cX2_init 98 = .ok (.putfield 56, 3) := by decide +kernel
theorem dX2_init_101 : decode cX2_init 101 = .ok (.aload_n 0, 1) := by decide +kernel
theorem dX2_init_102 : decode cX2_init 102 = .ok (.iconst 0, 1) := by decide +kernel
theorem dX2_init_103 : decode cX2_init 103 = .ok (.putfield 59, 3) := by decide +kernel
theorem dX2_init_106 : decode cX2_init 106 = .ok (.iconst 0, 1) := by decide +kernel
theorem dX2_init_107 : decode cX2_init 107 = .ok (.istore_n 1, 1) := by decide +kernel
theorem dX2_init_108 : decode cX2_init 108 = .ok (.iload_n 1, 1) := by decide +kernel
theorem dX2_init_109 : decode cX2_init 109 = .ok (.bipush 48, 2) := by decide +kernel
theorem dX2_init_111 : decode cX2_init 111 = .ok (.if_icmp .ge 16, 3) := by decide +kernel
theorem dX2_init_114 : decode cX2_init 114 = .ok (.aload_n 0, 1) := by decide +kernel
theorem dX2_init_115 : decode cX2_init 115 = .ok (.getfield 18, 3) := by decide +kernel
theorem dX2_init_118 : decode cX2_init 118 = .ok (.iload_n 1, 1) := by decide +kernel
theorem dX2_init_119 : decode cX2_init 119 = .ok (.iconst (-1), 1) := by decide +kernel
theorem dX2_init_120 : decode cX2_init 120 = .ok (.iastore, 1) := by decide +kernel
theorem dX2_init_121 : decode cX2_init 121 = .ok (.iinc 1 1, 3) := by decide +kernel
theorem dX2_init_124 : decode cX2_init 124 = .ok (.goto (-16), 3) := by decide +kernel
theorem dX2_init_127 : decode cX2_init 127 = .ok (.iconst 0, 1) := by decide +kernel
theorem dX2_init_128 : decode cX2_init 128 = .ok (.istore_n 1, 1) := by decide +kernel
theorem dX2_init_129 : decode cX2_init 129 = .ok (.iload_n 1, 1) := by decide +kernel
theorem dX2_init_130 : decode cX2_init 130 = .ok (.aload_n 0, 1) := by decide +kernel
theorem dX2_init_131 : decode cX2_init 131 = .ok (.getfield 35, 3) := by decide +kernel
theorem dX2_init_134 : decode cX2_init 134 = .ok (.arraylength, 1) := by decide +kernel
theorem dX2_init_135 : decode cX2_init 135 = .ok (.if_icmp .ge 22, 3) := by decide +kernel
theorem dX2_init_138 : decode cX2_init 138 = .ok (.aload_n 0, 1) := by decide +kernel
theorem dX2_init_139 : decode cX2_init 139 = .ok (.getfield 35, 3) := by decide +kernel
theorem dX2_init_142 : decode cX2_init 142 = .ok (.iload_n 1, 1) := by decide +kernel
theorem dX2_init_143 : decode cX2_init 143 = .ok (.new 33, 3) := by decide +kernel
theorem dX2_init_146 : decode cX2_init 146 = .ok (.dup, 1) := by decide +kernel
theorem dX2_init_147 : decode cX2_init 147 = .ok (.invokespecial 62, 3) := by decide +kernel
theorem dX2_init_150 : decode cX2_init 150 = .ok (.aastore, 1) := by decide +kernel
theorem dX2_init_151 : decode cX2_init 151 = .ok (.iinc 1 1, 3) := by decide +kernel
theorem dX2_init_154 : decode cX2_init 154 = .ok (.goto (-25), 3) := by decide +kernel
theorem dX2_init_157 : decode cX2_init 157 = .ok (.return_, 1) := by decide +kernel
theorem dX2_copyFrom_0 : decode cX2_copyFrom 0 = .ok (.aload_n 1, 1) := by decide +kernel
theorem dX2_copyFrom_1 : decode cX2_copyFrom 1 = .ok (.getfield 9, 3) := by decide +kernel
theorem dX2_copyFrom_4 : decode cX2_copyFrom 4 = .ok (.iconst 0, 1) := by decide +kernel
theorem dX2_copyFrom_5 : decode cX2_copyFrom 5 = .ok (.aload_n 0, 1) := by decide +kernel
theorem dX2_copyFrom_6 : decode cX2_copyFrom 6 = .ok (.getfield 9, 3) := by decide +kernel
theorem dX2_copyFrom_9 : decode cX2_copyFrom 9 = .ok (.iconst 0, 1) := by decide +kernel
theorem dX2_copyFrom_10 : decode cX2_copyFrom 10 = .ok (.bipush 48, 2) := by decide +kernel
theorem dX2_copyFrom_12 : decode cX2_copyFrom 12 = .ok (.invokestatic 63, 3) := by decide +kernel
theorem dX2_copyFrom_15 : decode cX2_copyFrom 15 = .ok (.aload_n 1, 1) := by decide +kernel
theorem dX2_copyFrom_16 : decode cX2_copyFrom 16 = .ok (.getfield 15, 3) := by decide +kernel
theorem dX2_copyFrom_19 : decode cX2_copyFrom 19 = .ok (.iconst 0, 1) := by decide +kernel
theorem dX2_copyFrom_20 : decode cX2_copyFrom 20 = .ok (.aload_n 0, 1) := by decide +kernel
theorem dX2_copyFrom_21 : decode cX2_copyFrom 21 = .ok (.getfield 15, 3) := by decide +kernel
theorem dX2_copyFrom_24 : decode cX2_copyFrom 24 = .ok (.iconst 0, 1) := by decide +kernel
theorem dX2_copyFrom_25 : decode cX2_copyFrom 25 = .ok (.bipush 48, 2) := by decide +kernel
theorem dX2_copyFrom_27 : decode cX2_copyFrom 27 = .ok (.invokestatic 63, 3) := by decide +kernel
theorem dX2_copyFrom_30 : decode cX2_copyFrom 30 = .ok (.aload_n 1, 1) := by decide +kernel
theorem dX2_copyFrom_31 : decode cX2_copyFrom 31 = .ok (.getfield 18, 3) := by decide +kernel
theorem dX2_copyFrom_34 : decode cX2_copyFrom 34 = .ok (.iconst 0, 1) := by decide +kernel
theorem dX2_copyFrom_35 : decode cX2_copyFrom 35 = .ok (.aload_n 0, 1) := by decide +kernel
theorem dX2_copyFrom_36 : decode cX2_copyFrom 36 = .ok (.getfield 18, 3) := by decide +kernel
theorem dX2_copyFrom_39 : decode cX2_copyFrom 39 = .ok (.iconst 0, 1) := by decide +kernel
theorem dX2_copyFrom_40 : decode cX2_copyFrom 40 = .ok (.bipush 48, 2) := by decide +kernel
theorem dX2_copyFrom_42 : decode cX2_copyFrom 42 = .ok (.invokestatic 63, 3) := by decide +kernel
theorem dX2_copyFrom_45 : decode cX2_copyFrom 45 = .ok (.aload_n 1, 1) := by decide +kernel
theorem dX2_copyFrom_46 : decode cX2_copyFrom 46 = .ok (.getfield 21, 3) := by decide +kernel
theorem dX2_copyFrom_49 : decode cX2_copyFrom 49 = .ok (.iconst 0, 1) := by decide +kernel
theorem dX2_copyFrom_50 : decode cX2_copyFrom 50 = .ok (.aload_n 0, 1) := by decide +kernel
theorem dX2_copyFrom_51 : decode cX2_copyFrom 51 = .ok (.getfield 21, 3) := by decide +kernel
theorem dX2_copyFrom_54 : decode cX2_copyFrom 54 = .ok (.iconst 0, 1) := by decide +kernel
theorem dX2_copyFrom_55 : decode cX2_copyFrom 55 = .ok (.bipush 48, 2) := by decide +kernel
theorem dX2_copyFrom_57 : decode cX2_copyFrom 57 = .ok (.invokestatic 63, 3) := by decide +kernel
theorem dX2_copyFrom_60 : decode cX2_copyFrom 60 = .ok (.aload_n 0, 1) := by decide +kernel
theorem dX2_copyFrom_61 : decode cX2_copyFrom 61 = .ok (.aload_n 1, 1) := by decide +kernel
theorem dX2_copyFrom_62 : decode cX2_copyFrom 62 = .ok (.getfield 39, 3) := by decide +kernel
theorem dX2_copyFrom_65 : decode cX2_copyFrom 65 = .ok (.putfield 39, 3) := by decide +kernel
theorem dX2_copyFrom_68 : decode cX2_copyFrom 68 = .ok (.iconst 0, 1) := by decide +kernel
theorem dX2_copyFrom_69 : decode cX2_copyFrom 69 = .ok (.istore_n 2, 1) := by decide +kernel
theorem dX2_copyFrom_70 : decode cX2_copyFrom 70 = .ok (.iload_n 2, 1) := by decide +kernel
theorem dX2_copyFrom_71 : decode cX2_copyFrom 71 = .ok (.aload_n 0, 1) := by decide +kernel
theorem dX2_copyFrom_72 : decode cX2_copyFrom 72 = .ok (.getfield 39, 3) := by decide +kernel
theorem dX2_copyFrom_75 : decode cX2_copyFrom 75 = .ok (.if_icmp .ge 24, 3) := by decide +kernel
theorem dX2_copyFrom_78 : decode cX2_copyFrom 78 = .ok (.aload_n 0, 1) := by decide +kernel
theorem dX2_copyFrom_79 : decode cX2_copyFrom 79 = .ok (.getfield 35, 3) := by decide +kernel
theorem dX2_copyFrom_82 : decode cX2_copyFrom 82 = .ok (.iload_n 2, 1) := by decide +kernel
theorem dX2_copyFrom_83 : decode cX2_copyFrom 83 = .ok (.aaload, 1) := by decide +kernel
theorem dX2_copyFrom_84 : decode cX2_copyFrom 84 = .ok (.aload_n 1, 1) := by decide +kernel
theorem dX2_copyFrom_85 : decode cX2_copyFrom 85 = .ok (.getfield 35, 3) := by decide +kernel
theorem dX2_copyFrom_88 : decode cX2_copyFrom 88 = .ok (.iload_n 2, 1) := by decide +kernel
theorem dX2_copyFrom_89 : decode cX2_copyFrom 89 = .ok (.aaload, 1) := by decide +kernel
theorem dX2_copyFrom_90 : decode cX2_copyFrom 90 = .ok (.invokevirtual 69, 3) := by decide +kernel
theorem dX2_copyFrom_93 : decode cX2_copyFrom 93 = .ok (.iinc 2 1, 3) := by decide +kernel
theorem dX2_copyFrom_96 : decode cX2_copyFrom 96 = .ok (.goto (-26), 3) := by decide +kernel
theorem dX2_copyFrom_99 : decode cX2_copyFrom 99 = .ok (.aload_n 0, 1) := by decide +kernel
theorem dX2_copyFrom_100 : decode cX2_copyFrom 100 = .ok (.getfield 46, 3) := by decide +kernel
theorem dX2_copyFrom_103 : decode cX2_copyFrom 103 = .ok (.aload_n 1, 1) := by decide +kernel
theorem dX2_copyFrom_104 : decode cX2_copyFrom 104 = .ok (.getfield 46, 3) := by decide +kernel
theorem dX2_copyFrom_107 : decode cX2_copyFrom 107 = .ok (.invokevirtual 73, 3) := by decide +kernel
theorem dX2_copyFrom_110 : decode cX2_copyFrom 110 = .ok (.aload_n 1, 1) := by decide +kernel
theorem dX2_copyFrom_111 : decode cX2_copyFrom 111 = .ok (.getfield 50, 3) := by decide +kernel
theorem dX2_copyFrom_114 : decode cX2_copyFrom 114 = .ok (.iconst 0, 1) := by decide +kernel
theorem dX2_copyFrom_115 : decode cX2_copyFrom 115 = .ok (.aload_n 0, 1) := by decide +kernel
theorem dX2_copyFrom_116 : decode cX2_copyFrom 116 = .ok (.getfield 50, 3) := by decide +kernel
theorem dX2_copyFrom_119 : decode cX2_copyFrom 119 = .ok (.iconst 0, 1) := by decide +kernel
theorem dX2_copyFrom_120 : decode cX2_copyFrom 120 = .ok (.iconst 4, 1) := by decide +kernel
theorem dX2_copyFrom_121 : decode cX2_copyFrom 121 = .ok (.invokestatic 63, 3) := by decide +kernel
theorem dX2_copyFrom_124 : decode cX2_copyFrom 124 = .ok (.aload_n 0, 1) := by decide +kernel
theorem dX2_copyFrom_125 : decode cX2_copyFrom 125 = .ok (.aload_n 1, 1) := by decide +kernel
theorem dX2_copyFrom_126 : decode cX2_copyFrom 126 = .ok (.getfield 53, 3) := by decide +kernel
theorem dX2_copyFrom_129 : decode cX2_copyFrom 129 = .ok (.putfield 53, 3) := by decide +kernel
theorem dX2_copyFrom_132 : decode cX2_copyFrom 132 = .ok (.aload_n 0, 1) := by decide +kernel
theorem dX2_copyFrom_133 : decode cX2_copyFrom 133 = .ok (.aload_n 1, 1) := by decide +kernel
theorem dX2_copyFrom_134 : decode cX2_copyFrom 134 = .ok (.getfield 56, 3) := by decide +kernel
theorem dX2_copyFrom_137 : decode cX2_copyFrom 137 = .ok (.putfield 56, 3) := by decide +kernel
theorem dX2_copyFrom_140 : decode cX2_copyFrom 140 = .ok (.aload_n 0, 1) := by decide +kernel
theorem dX2_copyFrom_141 : decode cX2_copyFrom 141 = .ok (.aload_n 1, 1) := by decide +kernel
theorem dX2_copyFrom_142 : decode cX2_copyFrom 142 = .ok (.getfield 59, 3) := by decide +kernel
theorem dX2_copyFrom_145 : decode cX2_copyFrom 145 = .ok (.putfield 59, 3) := by decide +kernel
theorem dX2_copyFrom_148 : decode cX2_copyFrom 148 = .ok (.return_, 1) := by decide +kernel
theorem dX2_paint_0 : decode cX2_paint 0 = .ok (.aload_n 0, 1) := by decide +kernel
theorem dX2_paint_1 : decode cX2_paint 1 = .ok (.getfield 9, 3) := by decide +kernel
theorem dX2_paint_4 : decode cX2_paint 4 = .ok (.iconst 0, 1) := by decide +kernel
theorem dX2_paint_5 : decode cX2_paint 5 = .ok (.aload_n 0, 1) := by decide +kernel
theorem dX2_paint_6 : decode cX2_paint 6 = .ok (.getfield 30, 3) := by decide +kernel
theorem dX2_paint_9 : decode cX2_paint 9 = .ok (.iconst 0, 1) := by decide +kernel
theorem dX2_paint_10 : decode cX2_paint 10 = .ok (.bipush 48, 2) := by decide +kernel
theorem dX2_paint_12 : decode cX2_paint 12 = .ok (.invokestatic 63, 3) := by decide +kernel
theorem dX2_paint_15 : decode cX2_paint 15 = .ok (.iload_n 2, 1) := by decide +kernel
theorem dX2_paint_16 : decode cX2_paint 16 = .ok (.istore 6, 2) := by decide +kernel
theorem dX2_paint_18 : decode cX2_paint 18 = .ok (.iload 6, 2) := by decide +kernel
theorem dX2_paint_20 : decode cX2_paint 20 = .ok (.iload_n 2, 1) := by decide +kernel
theorem dX2_paint_21 : decode cX2_paint 21 = .ok (.iload 4, 2) := by decide +kernel
theorem dX2_paint_23 : decode cX2_paint 23 = .ok (.iadd, 1) := by decide +kernel
theorem dX2_paint_24 : decode cX2_paint 24 = .ok (.if_icmp .ge 40, 3) := by decide +kernel
theorem dX2_paint_27 : decode cX2_paint 27 = .ok (.iload_n 1, 1) := by decide +kernel
theorem dX2_paint_28 : decode cX2_paint 28 = .ok (.istore 7, 2) := by decide +kernel
theorem dX2_paint_30 : decode cX2_paint 30 = .ok (.iload 7, 2) := by decide +kernel
theorem dX2_paint_32 : decode cX2_paint 32 = .ok (.iload_n 1, 1) := by decide +kernel
theorem dX2_paint_33 : decode cX2_paint 33 = .ok (.iload_n 3, 1) := by decide +kernel
theorem dX2_paint_34 : decode cX2_paint 34 = .ok (.iadd, 1) := by decide +kernel
theorem dX2_paint_35 : decode cX2_paint 35 = .ok (.if_icmp .ge 23, 3) := by decide +kernel
theorem dX2_paint_38 : decode cX2_paint 38 = .ok (.aload_n 0, 1) := by decide +kernel
theorem dX2_paint_39 : decode cX2_paint 39 = .ok (.getfield 9, 3) := by decide +kernel
theorem dX2_paint_42 : decode cX2_paint 42 = .ok (.iload 7, 2) := by decide +kernel
theorem dX2_paint_44 : decode cX2_paint 44 = .ok (.iload 6, 2) := by decide +kernel
theorem dX2_paint_46 : decode cX2_paint 46 = .ok (.invokestatic 76, 3) := by decide +kernel
theorem dX2_paint_49 : decode cX2_paint 49 = .ok (.iload 5, 2) := by decide +kernel
theorem dX2_paint_51 : decode cX2_paint 51 = .ok (.iastore, 1) := by decide +kernel
theorem dX2_paint_52 : decode cX2_paint 52 = .ok (.iinc 7 1, 3) := by decide +kernel
theorem dX2_paint_55 : decode cX2_paint 55 = .ok (.goto (-25), 3) := by decide +kernel
theorem dX2_paint_58 : decode cX2_paint 58 = .ok (.iinc 6 1, 3) := by decide +kernel
theorem dX2_paint_61 : decode cX2_paint 61 = .ok (.goto (-43), 3) := by decide +kernel
theorem dX2_paint_64 : decode cX2_paint 64 = .ok (.aload_n 0, 1) := by decide +kernel
theorem dX2_paint_65 : decode cX2_paint 65 = .ok (.invokevirtual 80, 3) := by decide +kernel
theorem dX2_paint_68 : decode cX2_paint 68 = .ok (.aload_n 0, 1) := by decide +kernel
theorem dX2_paint_69 : decode cX2_paint 69 = .ok (.invokevirtual 83, 3) := by decide +kernel
theorem dX2_paint_72 : decode cX2_paint 72 = .ok (.return_, 1) := by decide +kernel
theorem dX2_shift_0 : decode cX2_shift 0 = .ok (.aload_n 0, 1) := by decide +kernel
theorem dX2_shift_1 : decode cX2_shift 1 = .ok (.getfield 35, 3) := by decide +kernel
theorem dX2_shift_4 : decode cX2_shift 4 = .ok (.aload_n 0, 1) := by decide +kernel
theorem dX2_shift_5 : decode cX2_shift 5 = .ok (.getfield 39, 3) := by decide +kernel
theorem dX2_shift_8 : decode cX2_shift 8 = .ok (.aaload, 1) := by decide +kernel
theorem dX2_shift_9 : decode cX2_shift 9 = .ok (.astore 7, 2) := by decide +kernel
theorem dX2_shift_11 : decode cX2_shift 11 = .ok (.aload 7, 2) := by decide +kernel
theorem dX2_shift_13 : decode cX2_shift 13 = .ok (.iload_n 1, 1) := by decide +kernel
theorem dX2_shift_14 : decode cX2_shift 14 = .ok (.iload_n 2, 1) := by decide +kernel
theorem dX2_shift_15 : decode cX2_shift 15 = .ok (.iload_n 3, 1) := by decide +kernel
theorem dX2_shift_16 : decode cX2_shift 16 = .ok (.iload 4, 2) := by decide +kernel
theorem dX2_shift_18 : decode cX2_shift 18 = .ok (.iload 5, 2) := by decide +kernel
theorem dX2_shift_20 : decode cX2_shift 20 = .ok (.iload 6, 2) := by decide +kernel
theorem dX2_shift_22 : decode cX2_shift 22 = .ok (.invokevirtual 86, 3) := by decide +kernel
theorem dX2_shift_25 : decode cX2_shift 25 = .ok (.aload 7, 2) := by decide +kernel
theorem dX2_shift_27 : decode cX2_shift 27 = .ok (.aload_n 0, 1) := by decide +kernel
theorem dX2_shift_28 : decode cX2_shift 28 = .ok (.getfield 9, 3) := by decide +kernel
theorem dX2_shift_31 : decode cX2_shift 31 = .ok (.aload_n 0, 1) := by decide +kernel
theorem dX2_shift_32 : decode cX2_shift 32 = .ok (.getfield 30, 3) := by decide +kernel
theorem dX2_shift_35 : decode cX2_shift 35 = .ok (.invokevirtual 90, 3) := by decide +kernel
theorem dX2_shift_38 : decode cX2_shift 38 = .ok (.aload_n 0, 1) := by decide +kernel
theorem dX2_shift_39 : decode cX2_shift 39 = .ok (.getfield 39, 3) := by decide +kernel
theorem dX2_shift_42 : decode cX2_shift 42 = .ok (.iconst 4, 1) := by decide +kernel
theorem dX2_shift_43 : decode cX2_shift 43 = .ok (.if_icmp .ge 13, 3) := by decide +kernel
theorem dX2_shift_46 : decode cX2_shift 46 = .ok (.aload_n 0, 1) := by decide +kernel
theorem dX2_shift_47 : decode cX2_shift 47 = .ok (.dup, 1) := by decide +kernel
theorem dX2_shift_48 : decode cX2_shift 48 = .ok (.getfield 39, 3) := by decide +kernel
theorem dX2_shift_51 : decode cX2_shift 51 = .ok (.iconst 1, 1) := by decide +kernel
theorem dX2_shift_52 : decode cX2_shift 52 = .ok (.iadd, 1) := by decide +kernel
theorem dX2_shift_53 : decode cX2_shift 53 = .ok (.putfield 39, 3) := by decide +kernel
theorem dX2_shift_56 : decode cX2_shift 56 = .ok (.aload_n 0, 1) := by decide +kernel
theorem dX2_shift_57 : decode cX2_shift 57 = .ok (.invokevirtual 80, 3) := by decide +kernel
theorem dX2_shift_60 : decode cX2_shift 60 = .ok (.aload_n 0, 1) := by decide +kernel
theorem dX2_shift_61 : decode cX2_shift 61 = .ok (.invokevirtual 83, 3) := by decide +kernel
theorem dX2_shift_64 : decode cX2_shift 64 = .ok (.return_, 1) := by decide +kernel
theorem dX2_noteChanges_0 : decode cX2_noteChanges 0 = .ok (.iconst 0, 1) := by decide +kernel
theorem dX2_noteChanges_1 : decode cX2_noteChanges 1 = .ok (.istore_n 1, 1) := by decide +kernel
theorem dX2_noteChanges_2 : decode cX2_noteChanges 2 = .ok (.iload_n 1, 1) := by decide +kernel
theorem dX2_noteChanges_3 : decode cX2_noteChanges 3 = .ok (.bipush 48, 2) := by decide +kernel
theorem dX2_noteChanges_5 : decode cX2_noteChanges 5 = .ok (.if_icmp .ge 34, 3) := by decide +kernel
theorem dX2_noteChanges_8 : decode cX2_noteChanges 8 = .ok (.aload_n 0, 1) := by decide +kernel
theorem dX2_noteChanges_9 : decode cX2_noteChanges 9 = .ok (.getfield 9, 3) := by decide +kernel
theorem dX2_noteChanges_12 : decode cX2_noteChanges 12 = .ok (.iload_n 1, 1) := by decide +kernel
theorem dX2_noteChanges_13 : decode cX2_noteChanges 13 = .ok (.iaload, 1) := by decide +kernel
theorem dX2_noteChanges_14 : decode cX2_noteChanges 14 = .ok (.aload_n 0, 1) := by decide +kernel
theorem dX2_noteChanges_15 : decode cX2_noteChanges 15 = .ok (.getfield 30, 3) := by decide +kernel
theorem dX2_noteChanges_18 : decode cX2_noteChanges 18 = .ok (.iload_n 1, 1) := by decide +kernel
theorem dX2_noteChanges_19 : decode cX2_noteChanges 19 = .ok (.iaload, 1) := by decide +kernel
theorem dX2_noteChanges_20 : decode cX2_noteChanges 20 = .ok (.if_icmp .eq 13, 3) := by decide +kernel
theorem dX2_noteChanges_23 : decode cX2_noteChanges 23 = .ok (.aload_n 0, 1) := by decide +kernel
theorem dX2_noteChanges_24 : decode cX2_noteChanges 24 = .ok (.getfield 21, 3) := by decide +kernel
theorem dX2_noteChanges_27 : decode cX2_noteChanges 27 = .ok (.iload_n 1, 1) := by decide +kernel
theorem dX2_noteChanges_28 : decode cX2_noteChanges 28 = .ok (.dup2, 1) := by decide +kernel
theorem dX2_noteChanges_29 : decode cX2_noteChanges 29 = .ok (.iaload, 1) := by decide +kernel
theorem dX2_noteChanges_30 : decode cX2_noteChanges 30 = .ok (.iconst 1, 1) := by decide +kernel
theorem dX2_noteChanges_31 : decode cX2_noteChanges 31 = .ok (.ior, 1) := by decide +kernel
theorem dX2_noteChanges_32 : decode cX2_noteChanges 32 = .ok (.iastore, 1) := by decide +kernel
theorem dX2_noteChanges_33 : decode cX2_noteChanges 33 = .ok (.iinc 1 1, 3) := by decide +kernel
theorem dX2_noteChanges_36 : decode cX2_noteChanges 36 = .ok (.goto (-34), 3) := by decide +kernel
theorem dX2_noteChanges_39 : decode cX2_noteChanges 39 = .ok (.return_, 1) := by decide +kernel
theorem dX2_noteUnlike_0 : decode cX2_noteUnlike 0 = .ok (.iconst 0, 1) := by decide +kernel
theorem dX2_noteUnlike_1 : decode cX2_noteUnlike 1 = .ok (.istore_n 1, 1) := by decide +kernel
theorem dX2_noteUnlike_2 : decode cX2_noteUnlike 2 = .ok (.iload_n 1, 1) := by decide +kernel
theorem dX2_noteUnlike_3 : decode cX2_noteUnlike 3 = .ok (.bipush 48, 2) := by decide +kernel
theorem dX2_noteUnlike_5 : decode cX2_noteUnlike 5 = .ok (.if_icmp .ge 54, 3) := by decide +kernel
theorem dX2_noteUnlike_8 : decode cX2_noteUnlike 8 = .ok (.aload_n 0, 1) := by decide +kernel
theorem dX2_noteUnlike_9 : decode cX2_noteUnlike 9 = .ok (.getfield 9, 3) := by decide +kernel
theorem dX2_noteUnlike_12 : decode cX2_noteUnlike 12 = .ok (.iload_n 1, 1) := by decide +kernel
theorem dX2_noteUnlike_13 : decode cX2_noteUnlike 13 = .ok (.iaload, 1) := by decide +kernel
theorem dX2_noteUnlike_14 : decode cX2_noteUnlike 14 = .ok (.aload_n 0, 1) := by decide +kernel
theorem dX2_noteUnlike_15 : decode cX2_noteUnlike 15 = .ok (.getfield 15, 3) := by decide +kernel
theorem dX2_noteUnlike_18 : decode cX2_noteUnlike 18 = .ok (.iload_n 1, 1) := by decide +kernel
theorem dX2_noteUnlike_19 : decode cX2_noteUnlike 19 = .ok (.iaload, 1) := by decide +kernel
theorem dX2_noteUnlike_20 : decode cX2_noteUnlike 20 = .ok (.if_icmp .ne 13, 3) := by decide +kernel
theorem dX2_noteUnlike_23 : decode cX2_noteUnlike 23 = .ok (.aload_n 0, 1) := by decide +kernel
theorem dX2_noteUnlike_24 : decode cX2_noteUnlike 24 = .ok (.getfield 18, 3) := by decide +kernel
theorem dX2_noteUnlike_27 : decode cX2_noteUnlike 27 = .ok (.iload_n 1, 1) := by decide +kernel
theorem dX2_noteUnlike_28 : decode cX2_noteUnlike 28 = .ok (.iconst (-1), 1) := by decide +kernel
theorem dX2_noteUnlike_29 : decode cX2_noteUnlike 29 = .ok (.iastore, 1) := by decide +kernel
theorem dX2_noteUnlike_30 : decode cX2_noteUnlike 30 = .ok (.goto 23, 3) := by decide +kernel
theorem dX2_noteUnlike_33 : decode cX2_noteUnlike 33 = .ok (.aload_n 0, 1) := by decide +kernel
theorem dX2_noteUnlike_34 : decode cX2_noteUnlike 34 = .ok (.getfield 18, 3) := by decide +kernel
theorem dX2_noteUnlike_37 : decode cX2_noteUnlike 37 = .ok (.iload_n 1, 1) := by decide +kernel
theorem dX2_noteUnlike_38 : decode cX2_noteUnlike 38 = .ok (.iaload, 1) := by decide +kernel
theorem dX2_noteUnlike_39 : decode cX2_noteUnlike 39 = .ok (.iconst (-1), 1) := by decide +kernel
theorem dX2_noteUnlike_40 : decode cX2_noteUnlike 40 = .ok (.if_icmp .ne 13, 3) := by decide +kernel
theorem dX2_noteUnlike_43 : decode cX2_noteUnlike 43 = .ok (.aload_n 0, 1) := by decide +kernel
theorem dX2_noteUnlike_44 : decode cX2_noteUnlike 44 = .ok (.getfield 18, 3) := by decide +kernel
theorem dX2_noteUnlike_47 : decode cX2_noteUnlike 47 = .ok (.iload_n 1, 1) := by decide +kernel
theorem dX2_noteUnlike_48 : decode cX2_noteUnlike 48 = .ok (.aload_n 0, 1) := by decide +kernel
theorem dX2_noteUnlike_49 : decode cX2_noteUnlike 49 = .ok (.getfield 56, 3) := by decide +kernel
theorem dX2_noteUnlike_52 : decode cX2_noteUnlike 52 = .ok (.iastore, 1) := by decide +kernel
theorem dX2_noteUnlike_53 : decode cX2_noteUnlike 53 = .ok (.iinc 1 1, 3) := by decide +kernel
theorem dX2_noteUnlike_56 : decode cX2_noteUnlike 56 = .ok (.goto (-54), 3) := by decide +kernel
theorem dX2_noteUnlike_59 : decode cX2_noteUnlike 59 = .ok (.return_, 1) := by decide +kernel
theorem dX2_kindOf_0 : decode cX2_kindOf 0 = .ok (.aload_n 0, 1) := by decide +kernel
theorem dX2_kindOf_1 : decode cX2_kindOf 1 = .ok (.getfield 21, 3) := by decide +kernel
theorem dX2_kindOf_4 : decode cX2_kindOf 4 = .ok (.iload_n 1, 1) := by decide +kernel
theorem dX2_kindOf_5 : decode cX2_kindOf 5 = .ok (.iaload, 1) := by decide +kernel
theorem dX2_kindOf_6 : decode cX2_kindOf 6 = .ok (.invokestatic 94, 3) := by decide +kernel
theorem dX2_kindOf_9 : decode cX2_kindOf 9 = .ok (.iconst 4, 1) := by decide +kernel
theorem dX2_kindOf_10 : decode cX2_kindOf 10 = .ok (.if_icmp .lt 5, 3) := by decide +kernel
theorem dX2_kindOf_13 : decode cX2_kindOf 13 = .ok (.iconst 2, 1) := by decide +kernel
theorem dX2_kindOf_14 : decode cX2_kindOf 14 = .ok (.ireturn, 1) := by decide +kernel
theorem dX2_kindOf_15 : decode cX2_kindOf 15 = .ok (.aload_n 0, 1) := by decide +kernel
theorem dX2_kindOf_16 : decode cX2_kindOf 16 = .ok (.getfield 9, 3) := by decide +kernel
theorem dX2_kindOf_19 : decode cX2_kindOf 19 = .ok (.iload_n 1, 1) := by decide +kernel
theorem dX2_kindOf_20 : decode cX2_kindOf 20 = .ok (.iaload, 1) := by decide +kernel
theorem dX2_kindOf_21 : decode cX2_kindOf 21 = .ok (.bipush 64, 2) := by decide +kernel
theorem dX2_kindOf_23 : decode cX2_kindOf 23 = .ok (.if_icmp .ge 7, 3) := by decide +kernel
theorem dX2_kindOf_26 : decode cX2_kindOf 26 = .ok (.iconst 0, 1) := by decide +kernel
theorem dX2_kindOf_27 : decode cX2_kindOf 27 = .ok (.goto 4, 3) := by decide +kernel
theorem dX2_kindOf_30 : decode cX2_kindOf 30 = .ok (.iconst 1, 1) := by decide +kernel
theorem dX2_kindOf_31 : decode cX2_kindOf 31 = .ok (.ireturn, 1) := by decide +kernel
theorem dX2_hasFilm_0 : decode cX2_hasFilm 0 = .ok (.iconst 0, 1) := by decide +kernel
theorem dX2_hasFilm_1 : decode cX2_hasFilm 1 = .ok (.istore_n 1, 1) := by decide +kernel
theorem dX2_hasFilm_2 : decode cX2_hasFilm 2 = .ok (.iload_n 1, 1) := by decide +kernel
theorem dX2_hasFilm_3 : decode cX2_hasFilm 3 = .ok (.bipush 48, 2) := by decide +kernel
theorem dX2_hasFilm_5 : decode cX2_hasFilm 5 = .ok (.if_icmp .ge 20, 3) := by decide +kernel
theorem dX2_hasFilm_8 : decode cX2_hasFilm 8 = .ok (.aload_n 0, 1) := by decide +kernel
theorem dX2_hasFilm_9 : decode cX2_hasFilm 9 = .ok (.iload_n 1, 1) := by decide +kernel
theorem dX2_hasFilm_10 : decode cX2_hasFilm 10 = .ok (.invokevirtual 100, 3) := by decide +kernel
theorem dX2_hasFilm_13 : decode cX2_hasFilm 13 = .ok (.iconst 2, 1) := by decide +kernel
theorem dX2_hasFilm_14 : decode cX2_hasFilm 14 = .ok (.if_icmp .ne 5, 3) := by decide +kernel
theorem dX2_hasFilm_17 : decode cX2_hasFilm 17 = .ok (.iconst 1, 1) := by decide +kernel
theorem dX2_hasFilm_18 : decode cX2_hasFilm 18 = .ok (.ireturn, 1) := by decide +kernel
theorem dX2_hasFilm_19 : decode cX2_hasFilm 19 = .ok (.iinc 1 1, 3) := by decide +kernel
theorem dX2_hasFilm_22 : decode cX2_hasFilm 22 = .ok (.goto (-20), 3) := by decide +kernel
theorem dX2_hasFilm_25 : decode cX2_hasFilm 25 = .ok (.iconst 0, 1) := by decide +kernel
theorem dX2_hasFilm_26 : decode cX2_hasFilm 26 = .ok (.ireturn, 1) := by decide +kernel
theorem dX2_unlikeSet_0 : decode cX2_unlikeSet 0 = .ok (.lconst 0, 1) := by decide +kernel
theorem dX2_unlikeSet_1 : decode cX2_unlikeSet 1 = .ok (.lstore_n 1, 1) := by decide +kernel
theorem dX2_unlikeSet_2 : decode cX2_unlikeSet 2 = .ok (.iconst 0, 1) := by decide +kernel
theorem dX2_unlikeSet_3 : decode cX2_unlikeSet 3 = .ok (.istore_n 3, 1) := by decide +kernel
theorem dX2_unlikeSet_4 : decode cX2_unlikeSet 4 = .ok (.iload_n 3, 1) := by decide +kernel
theorem dX2_unlikeSet_5 : decode cX2_unlikeSet 5 = .ok (.bipush 48, 2) := by decide +kernel
theorem dX2_unlikeSet_7 : decode cX2_unlikeSet 7 = .ok (.if_icmp .ge 25, 3) := by decide +kernel
theorem dX2_unlikeSet_10 : decode cX2_unlikeSet 10 = .ok (.aload_n 0, 1) := by decide +kernel
theorem dX2_unlikeSet_11 : decode cX2_unlikeSet 11 = .ok (.getfield 18, 3) := by decide +kernel
theorem dX2_unlikeSet_14 : decode cX2_unlikeSet 14 = .ok (.iload_n 3, 1) := by decide +kernel
theorem dX2_unlikeSet_15 : decode cX2_unlikeSet 15 = .ok (.iaload, 1) := by decide +kernel
theorem dX2_unlikeSet_16 : decode cX2_unlikeSet 16 = .ok (.iconst (-1), 1) := by decide +kernel
theorem dX2_unlikeSet_17 : decode cX2_unlikeSet 17 = .ok (.if_icmp .eq 9, 3) := by decide +kernel
theorem dX2_unlikeSet_20 : decode cX2_unlikeSet 20 = .ok (.lload_n 1, 1) := by decide +kernel
theorem dX2_unlikeSet_21 : decode cX2_unlikeSet 21 = .ok (.lconst 1, 1) := by decide +kernel
theorem dX2_unlikeSet_22 : decode cX2_unlikeSet 22 = .ok (.iload_n 3, 1) := by decide +kernel
theorem dX2_unlikeSet_23 : decode cX2_unlikeSet 23 = .ok (.lshl, 1) := by decide +kernel
theorem dX2_unlikeSet_24 : decode cX2_unlikeSet 24 = .ok (.lor, 1) := by decide +kernel
theorem dX2_unlikeSet_25 : decode cX2_unlikeSet 25 = .ok (.lstore_n 1, 1) := by decide +kernel
theorem dX2_unlikeSet_26 : decode cX2_unlikeSet 26 = .ok (.iinc 3 1, 3) := by decide +kernel
theorem dX2_unlikeSet_29 : decode cX2_unlikeSet 29 = .ok (.goto (-25), 3) := by decide +kernel
theorem dX2_unlikeSet_32 : decode cX2_unlikeSet 32 = .ok (.lload_n 1, 1) := by decide +kernel
theorem dX2_unlikeSet_33 : decode cX2_unlikeSet 33 = .ok (.lreturn, 1) := by decide +kernel
theorem dX2_countUnlike_0 : decode cX2_countUnlike 0 = .ok (.aload_n 0, 1) := by decide +kernel
theorem dX2_countUnlike_1 : decode cX2_countUnlike 1 = .ok (.invokevirtual 103, 3) := by decide +kernel
theorem dX2_countUnlike_4 : decode cX2_countUnlike 4 = .ok (.invokestatic 107, 3) := by decide +kernel
theorem dX2_countUnlike_7 : decode cX2_countUnlike 7 = .ok (.ireturn, 1) := by decide +kernel
theorem dX2_countRough_0 : decode cX2_countRough 0 = .ok (.iconst 0, 1) := by decide +kernel
theorem dX2_countRough_1 : decode cX2_countRough 1 = .ok (.istore_n 1, 1) := by decide +kernel
theorem dX2_countRough_2 : decode cX2_countRough 2 = .ok (.iconst 0, 1) := by decide +kernel
theorem dX2_countRough_3 : decode cX2_countRough 3 = .ok (.istore_n 2, 1) := by decide +kernel
theorem dX2_countRough_4 : decode cX2_countRough 4 = .ok (.iload_n 2, 1) := by decide +kernel
theorem dX2_countRough_5 : decode cX2_countRough 5 = .ok (.bipush 48, 2) := by decide +kernel
theorem dX2_countRough_7 : decode cX2_countRough 7 = .ok (.if_icmp .ge 24, 3) := by decide +kernel
theorem dX2_countRough_10 : decode cX2_countRough 10 = .ok (.aload_n 0, 1) := by decide +kernel
theorem dX2_countRough_11 : decode cX2_countRough 11 = .ok (.getfield 15, 3) := by decide +kernel
theorem dX2_countRough_14 : decode cX2_countRough 14 = .ok (.iload_n 2, 1) := by decide +kernel
theorem dX2_countRough_15 : decode cX2_countRough 15 = .ok (.iaload, 1) := by decide +kernel
theorem dX2_countRough_16 : decode cX2_countRough 16 = .ok (.sipush 1000, 3) := by decide +kernel
theorem dX2_countRough_19 : decode cX2_countRough 19 = .ok (.if_icmp .lt 6, 3) := by decide +kernel
theorem dX2_countRough_22 : decode cX2_countRough 22 = .ok (.iinc 1 1, 3) := by decide +kernel
theorem dX2_countRough_25 : decode cX2_countRough 25 = .ok (.iinc 2 1, 3) := by decide +kernel
theorem dX2_countRough_28 : decode cX2_countRough 28 = .ok (.goto (-24), 3) := by decide +kernel
theorem dX2_countRough_31 : decode cX2_countRough 31 = .ok (.iload_n 1, 1) := by decide +kernel
theorem dX2_countRough_32 : decode cX2_countRough 32 = .ok (.ireturn, 1) := by decide +kernel
theorem dX2_isAllSent_0 : decode cX2_isAllSent 0 = .ok (.aload_n 0, 1) := by decide +kernel
theorem dX2_isAllSent_1 : decode cX2_isAllSent 1 = .ok (.getfield 39, 3) := by decide +kernel
theorem dX2_isAllSent_4 : decode cX2_isAllSent 4 = .ok (.ifCond .ne 16, 3) := by decide +kernel
theorem dX2_isAllSent_7 : decode cX2_isAllSent 7 = .ok (.aload_n 0, 1) := by decide +kernel
theorem dX2_isAllSent_8 : decode cX2_isAllSent 8 = .ok (.invokevirtual 103, 3) := by decide +kernel
theorem dX2_isAllSent_11 : decode cX2_isAllSent 11 = .ok (.lconst 0, 1) := by decide +kernel
theorem dX2_isAllSent_12 : decode cX2_isAllSent 12 = .ok (.lcmp, 1) := by decide +kernel
theorem dX2_isAllSent_13 : decode cX2_isAllSent 13 = .ok (.ifCond .ne 7, 3) := by decide +kernel
theorem dX2_isAllSent_16 : decode cX2_isAllSent 16 = .ok (.iconst 1, 1) := by decide +kernel
theorem dX2_isAllSent_17 : decode cX2_isAllSent 17 = .ok (.goto 4, 3) := by decide +kernel
theorem dX2_isAllSent_20 : decode cX2_isAllSent 20 = .ok (.iconst 0, 1) := by decide +kernel
theorem dX2_isAllSent_21 : decode cX2_isAllSent 21 = .ok (.ireturn, 1) := by decide +kernel
theorem dX2_passStep_0 : decode cX2_passStep 0 = .ok (.aload_n 0, 1) := by decide +kernel
theorem dX2_passStep_1 : decode cX2_passStep 1 = .ok (.iload_n 1, 1) := by decide +kernel
theorem dX2_passStep_2 : decode cX2_passStep 2 = .ok (.invokevirtual 112, 3) := by decide +kernel
theorem dX2_passStep_5 : decode cX2_passStep 5 = .ok (.istore_n 2, 1) := by decide +kernel
theorem dX2_passStep_6 : decode cX2_passStep 6 = .ok (.aload_n 0, 1) := by decide +kernel
theorem dX2_passStep_7 : decode cX2_passStep 7 = .ok (.getfield 39, 3) := by decide +kernel
theorem dX2_passStep_10 : decode cX2_passStep 10 = .ok (.ifCond .ne 13, 3) := by decide +kernel
theorem dX2_passStep_13 : decode cX2_passStep 13 = .ok (.iload_n 2, 1) := by decide +kernel
theorem dX2_passStep_14 : decode cX2_passStep 14 = .ok (.aload_n 0, 1) := by decide +kernel
theorem dX2_passStep_15 : decode cX2_passStep 15 = .ok (.iload_n 1, 1) := by decide +kernel
theorem dX2_passStep_16 : decode cX2_passStep 16 = .ok (.iload_n 2, 1) := by decide +kernel
theorem dX2_passStep_17 : decode cX2_passStep 17 = .ok (.isub, 1) := by decide +kernel
theorem dX2_passStep_18 : decode cX2_passStep 18 = .ok (.invokevirtual 115, 3) := by decide +kernel
theorem dX2_passStep_21 : decode cX2_passStep 21 = .ok (.iadd, 1) := by decide +kernel
theorem dX2_passStep_22 : decode cX2_passStep 22 = .ok (.istore_n 2, 1) := by decide +kernel
theorem dX2_passStep_23 : decode cX2_passStep 23 = .ok (.aload_n 0, 1) := by decide +kernel
theorem dX2_passStep_24 : decode cX2_passStep 24 = .ok (.dup, 1) := by decide +kernel
theorem dX2_passStep_25 : decode cX2_passStep 25 = .ok (.getfield 53, 3) := by decide +kernel
theorem dX2_passStep_28 : decode cX2_passStep 28 = .ok (.iload_n 2, 1) := by decide +kernel
theorem dX2_passStep_29 : decode cX2_passStep 29 = .ok (.iadd, 1) := by decide +kernel
theorem dX2_passStep_30 : decode cX2_passStep 30 = .ok (.putfield 53, 3) := by decide +kernel
theorem dX2_passStep_33 : decode cX2_passStep 33 = .ok (.aload_n 0, 1) := by decide +kernel
theorem dX2_passStep_34 : decode cX2_passStep 34 = .ok (.dup, 1) := by decide +kernel
theorem dX2_passStep_35 : decode cX2_passStep 35 = .ok (.getfield 56, 3) := by decide +kernel
theorem dX2_passStep_38 : decode cX2_passStep 38 = .ok (.iconst 1, 1) := by decide +kernel
theorem dX2_passStep_39 : decode cX2_passStep 39 = .ok (.iadd, 1) := by decide +kernel
theorem dX2_passStep_40 : decode cX2_passStep 40 = .ok (.putfield 56, 3) := by decide +kernel
theorem dX2_passStep_43 : decode cX2_passStep 43 = .ok (.aload_n 0, 1) := by decide +kernel
theorem dX2_passStep_44 : decode cX2_passStep 44 = .ok (.invokevirtual 118, 3) := by decide +kernel
theorem dX2_passStep_47 : decode cX2_passStep 47 = .ok (.iload_n 2, 1) := by decide +kernel
theorem dX2_passStep_48 : decode cX2_passStep 48 = .ok (.ireturn, 1) := by decide +kernel
theorem dX2_tellMoves_0 : decode cX2_tellMoves 0 = .ok (.iconst 0, 1) := by decide +kernel
theorem dX2_tellMoves_1 : decode cX2_tellMoves 1 = .ok (.istore_n 2, 1) := by decide +kernel
theorem dX2_tellMoves_2 : decode cX2_tellMoves 2 = .ok (.iload_n 2, 1) := by decide +kernel
theorem dX2_tellMoves_3 : decode cX2_tellMoves 3 = .ok (.aload_n 0, 1) := by decide +kernel
theorem dX2_tellMoves_4 : decode cX2_tellMoves 4 = .ok (.getfield 39, 3) := by decide +kernel
theorem dX2_tellMoves_7 : decode cX2_tellMoves 7 = .ok (.if_icmp .ge 39, 3) := by decide +kernel
theorem dX2_tellMoves_10 : decode cX2_tellMoves 10 = .ok (.iload_n 1, 1) := by decide +kernel
theorem dX2_tellMoves_11 : decode cX2_tellMoves 11 = .ok (.iload_n 2, 1) := by decide +kernel
theorem dX2_tellMoves_12 : decode cX2_tellMoves 12 = .ok (.iconst 2, 1) := by decide +kernel
theorem dX2_tellMoves_13 : decode cX2_tellMoves 13 = .ok (.imul, 1) := by decide +kernel
theorem dX2_tellMoves_14 : decode cX2_tellMoves 14 = .ok (.isub, 1) := by decide +kernel
theorem dX2_tellMoves_15 : decode cX2_tellMoves 15 = .ok (.iconst 2, 1) := by decide +kernel
theorem dX2_tellMoves_16 : decode cX2_tellMoves 16 = .ok (.if_icmp .lt 30, 3) := by decide +kernel
theorem dX2_tellMoves_19 : decode cX2_tellMoves 19 = .ok (.aload_n 0, 1) := by decide +kernel
theorem dX2_tellMoves_20 : decode cX2_tellMoves 20 = .ok (.getfield 35, 3) := by decide +kernel
theorem dX2_tellMoves_23 : decode cX2_tellMoves 23 = .ok (.iload_n 2, 1) := by decide +kernel
theorem dX2_tellMoves_24 : decode cX2_tellMoves 24 = .ok (.aaload, 1) := by decide +kernel
theorem dX2_tellMoves_25 : decode cX2_tellMoves 25 = .ok (.aload_n 0, 1) := by decide +kernel
theorem dX2_tellMoves_26 : decode cX2_tellMoves 26 = .ok (.getfield 15, 3) := by decide +kernel
theorem dX2_tellMoves_29 : decode cX2_tellMoves 29 = .ok (.aload_n 0, 1) := by decide +kernel
theorem dX2_tellMoves_30 : decode cX2_tellMoves 30 = .ok (.getfield 30, 3) := by decide +kernel
theorem dX2_tellMoves_33 : decode cX2_tellMoves 33 = .ok (.invokevirtual 90, 3) := by decide +kernel
theorem dX2_tellMoves_36 : decode cX2_tellMoves 36 = .ok (.aload_n 0, 1) := by decide +kernel
theorem dX2_tellMoves_37 : decode cX2_tellMoves 37 = .ok (.invokevirtual 83, 3) := by decide +kernel
theorem dX2_tellMoves_40 : decode cX2_tellMoves 40 = .ok (.iinc 2 1, 3) := by decide +kernel
theorem dX2_tellMoves_43 : decode cX2_tellMoves 43 = .ok (.goto (-41), 3) := by decide +kernel
theorem dX2_tellMoves_46 : decode cX2_tellMoves 46 = .ok (.aload_n 0, 1) := by decide +kernel
theorem dX2_tellMoves_47 : decode cX2_tellMoves 47 = .ok (.iload_n 2, 1) := by decide +kernel
theorem dX2_tellMoves_48 : decode cX2_tellMoves 48 = .ok (.invokevirtual 121, 3) := by decide +kernel
theorem dX2_tellMoves_51 : decode cX2_tellMoves 51 = .ok (.aload_n 0, 1) := by decide +kernel
theorem dX2_tellMoves_52 : decode cX2_tellMoves 52 = .ok (.getfield 50, 3) := by decide +kernel
theorem dX2_tellMoves_55 : decode cX2_tellMoves 55 = .ok (.iconst 0, 1) := by decide +kernel
theorem dX2_tellMoves_56 : decode cX2_tellMoves 56 = .ok (.dup2, 1) := by decide +kernel
theorem dX2_tellMoves_57 : decode cX2_tellMoves 57 = .ok (.iaload, 1) := by decide +kernel
theorem dX2_tellMoves_58 : decode cX2_tellMoves 58 = .ok (.iload_n 2, 1) := by decide +kernel
theorem dX2_tellMoves_59 : decode cX2_tellMoves 59 = .ok (.iadd, 1) := by decide +kernel
theorem dX2_tellMoves_60 : decode cX2_tellMoves 60 = .ok (.iastore, 1) := by decide +kernel
theorem dX2_tellMoves_61 : decode cX2_tellMoves 61 = .ok (.iload_n 2, 1) := by decide +kernel
theorem dX2_tellMoves_62 : decode cX2_tellMoves 62 = .ok (.iconst 2, 1) := by decide +kernel
theorem dX2_tellMoves_63 : decode cX2_tellMoves 63 = .ok (.imul, 1) := by decide +kernel
theorem dX2_tellMoves_64 : decode cX2_tellMoves 64 = .ok (.ireturn, 1) := by decide +kernel
theorem dX2_forgetMoves_0 : decode cX2_forgetMoves 0 = .ok (.iload_n 1, 1) := by decide +kernel
theorem dX2_forgetMoves_1 : decode cX2_forgetMoves 1 = .ok (.istore_n 2, 1) := by decide +kernel
theorem dX2_forgetMoves_2 : decode cX2_forgetMoves 2 = .ok (.iload_n 2, 1) := by decide +kernel
theorem dX2_forgetMoves_3 : decode cX2_forgetMoves 3 = .ok (.aload_n 0, 1) := by decide +kernel
theorem dX2_forgetMoves_4 : decode cX2_forgetMoves 4 = .ok (.getfield 39, 3) := by decide +kernel
theorem dX2_forgetMoves_7 : decode cX2_forgetMoves 7 = .ok (.if_icmp .ge 26, 3) := by decide +kernel
theorem dX2_forgetMoves_10 : decode cX2_forgetMoves 10 = .ok (.aload_n 0, 1) := by decide +kernel
theorem dX2_forgetMoves_11 : decode cX2_forgetMoves 11 = .ok (.getfield 35, 3) := by decide +kernel
theorem dX2_forgetMoves_14 : decode cX2_forgetMoves 14 = .ok (.iload_n 2, 1) := by decide +kernel
theorem dX2_forgetMoves_15 : decode cX2_forgetMoves 15 = .ok (.iload_n 1, 1) := by decide +kernel
theorem dX2_forgetMoves_16 : decode cX2_forgetMoves 16 = .ok (.isub, 1) := by decide +kernel
theorem dX2_forgetMoves_17 : decode cX2_forgetMoves 17 = .ok (.aaload, 1) := by decide +kernel
theorem dX2_forgetMoves_18 : decode cX2_forgetMoves 18 = .ok (.aload_n 0, 1) := by decide +kernel
theorem dX2_forgetMoves_19 : decode cX2_forgetMoves 19 = .ok (.getfield 35, 3) := by decide +kernel
theorem dX2_forgetMoves_22 : decode cX2_forgetMoves 22 = .ok (.iload_n 2, 1) := by decide +kernel
theorem dX2_forgetMoves_23 : decode cX2_forgetMoves 23 = .ok (.aaload, 1) := by decide +kernel
theorem dX2_forgetMoves_24 : decode cX2_forgetMoves 24 = .ok (.invokevirtual 69, 3) := by decide +kernel
theorem dX2_forgetMoves_27 : decode cX2_forgetMoves 27 = .ok (.iinc 2 1, 3) := by decide +kernel
theorem dX2_forgetMoves_30 : decode cX2_forgetMoves 30 = .ok (.goto (-28), 3) := by decide +kernel
theorem dX2_forgetMoves_33 : decode cX2_forgetMoves 33 = .ok (.aload_n 0, 1) := by decide +kernel
theorem dX2_forgetMoves_34 : decode cX2_forgetMoves 34 = .ok (.dup, 1) := by decide +kernel
theorem dX2_forgetMoves_35 : decode cX2_forgetMoves 35 = .ok (.getfield 39, 3) := by decide +kernel
theorem dX2_forgetMoves_38 : decode cX2_forgetMoves 38 = .ok (.iload_n 1, 1) := by decide +kernel
theorem dX2_forgetMoves_39 : decode cX2_forgetMoves 39 = .ok (.isub, 1) := by decide +kernel
theorem dX2_forgetMoves_40 : decode cX2_forgetMoves 40 = .ok (.putfield 39, 3) := by decide +kernel
theorem dX2_forgetMoves_43 : decode cX2_forgetMoves 43 = .ok (.return_, 1) := by decide +kernel
theorem dX2_sendTiles_0 : decode cX2_sendTiles 0 = .ok (.aload_n 0, 1) := by decide +kernel
theorem dX2_sendTiles_1 : decode cX2_sendTiles 1 = .ok (.invokevirtual 125, 3) := by decide +kernel
theorem dX2_sendTiles_4 : decode cX2_sendTiles 4 = .ok (.istore_n 2, 1) := by decide +kernel
theorem dX2_sendTiles_5 : decode cX2_sendTiles 5 = .ok (.iload_n 1, 1) := by decide +kernel
theorem dX2_sendTiles_6 : decode cX2_sendTiles 6 = .ok (.istore_n 3, 1) := by decide +kernel
theorem dX2_sendTiles_7 : decode cX2_sendTiles 7 = .ok (.iconst 0, 1) := by decide +kernel
theorem dX2_sendTiles_8 : decode cX2_sendTiles 8 = .ok (.istore 4, 2) := by decide +kernel
theorem dX2_sendTiles_10 : decode cX2_sendTiles 10 = .ok (.iload 4, 2) := by decide +kernel
theorem dX2_sendTiles_12 : decode cX2_sendTiles 12 = .ok (.iload_n 2, 1) := by decide +kernel
theorem dX2_sendTiles_13 : decode cX2_sendTiles 13 = .ok (.if_icmp .ge 24, 3) := by decide +kernel
theorem dX2_sendTiles_16 : decode cX2_sendTiles 16 = .ok (.iload_n 3, 1) := by decide +kernel
theorem dX2_sendTiles_17 : decode cX2_sendTiles 17 = .ok (.aload_n 0, 1) := by decide +kernel
theorem dX2_sendTiles_18 : decode cX2_sendTiles 18 = .ok (.aload_n 0, 1) := by decide +kernel
theorem dX2_sendTiles_19 : decode cX2_sendTiles 19 = .ok (.getfield 27, 3) := by decide +kernel
theorem dX2_sendTiles_22 : decode cX2_sendTiles 22 = .ok (.iload 4, 2) := by decide +kernel
theorem dX2_sendTiles_24 : decode cX2_sendTiles 24 = .ok (.iaload, 1) := by decide +kernel
theorem dX2_sendTiles_25 : decode cX2_sendTiles 25 = .ok (.iload_n 3, 1) := by decide +kernel
theorem dX2_sendTiles_26 : decode cX2_sendTiles 26 = .ok (.invokevirtual 129, 3) := by decide +kernel
theorem dX2_sendTiles_29 : decode cX2_sendTiles 29 = .ok (.isub, 1) := by decide +kernel
theorem dX2_sendTiles_30 : decode cX2_sendTiles 30 = .ok (.istore_n 3, 1) := by decide +kernel
theorem dX2_sendTiles_31 : decode cX2_sendTiles 31 = .ok (.iinc 4 1, 3) := by decide +kernel
theorem dX2_sendTiles_34 : decode cX2_sendTiles 34 = .ok (.goto (-24), 3) := by decide +kernel
theorem dX2_sendTiles_37 : decode cX2_sendTiles 37 = .ok (.iload_n 1, 1) := by decide +kernel
theorem dX2_sendTiles_38 : decode cX2_sendTiles 38 = .ok (.iload_n 3, 1) := by decide +kernel
theorem dX2_sendTiles_39 : decode cX2_sendTiles 39 = .ok (.isub, 1) := by decide +kernel
theorem dX2_sendTiles_40 : decode cX2_sendTiles 40 = .ok (.ireturn, 1) := by decide +kernel
theorem dX2_putInOrder_0 : decode cX2_putInOrder 0 = .ok (.iconst 0, 1) := by decide +kernel
theorem dX2_putInOrder_1 : decode cX2_putInOrder 1 = .ok (.istore_n 1, 1) := by decide +kernel
theorem dX2_putInOrder_2 : decode cX2_putInOrder 2 = .ok (.iconst 0, 1) := by decide +kernel
theorem dX2_putInOrder_3 : decode cX2_putInOrder 3 = .ok (.istore_n 2, 1) := by decide +kernel
theorem dX2_putInOrder_4 : decode cX2_putInOrder 4 = .ok (.iload_n 2, 1) := by decide +kernel
theorem dX2_putInOrder_5 : decode cX2_putInOrder 5 = .ok (.bipush 48, 2) := by decide +kernel
theorem dX2_putInOrder_7 : decode cX2_putInOrder 7 = .ok (.if_icmp .ge 39, 3) := by decide +kernel
theorem dX2_putInOrder_10 : decode cX2_putInOrder 10 = .ok (.aload_n 0, 1) := by decide +kernel
theorem dX2_putInOrder_11 : decode cX2_putInOrder 11 = .ok (.getfield 18, 3) := by decide +kernel
theorem dX2_putInOrder_14 : decode cX2_putInOrder 14 = .ok (.iload_n 2, 1) := by decide +kernel
theorem dX2_putInOrder_15 : decode cX2_putInOrder 15 = .ok (.iaload, 1) := by decide +kernel
theorem dX2_putInOrder_16 : decode cX2_putInOrder 16 = .ok (.iconst (-1), 1) := by decide +kernel
theorem dX2_putInOrder_17 : decode cX2_putInOrder 17 = .ok (.if_icmp .eq 23, 3) := by decide +kernel
theorem dX2_putInOrder_20 : decode cX2_putInOrder 20 = .ok (.aload_n 0, 1) := by decide +kernel
theorem dX2_putInOrder_21 : decode cX2_putInOrder 21 = .ok (.getfield 24, 3) := by decide +kernel
theorem dX2_putInOrder_24 : decode cX2_putInOrder 24 = .ok (.iload_n 2, 1) := by decide +kernel
theorem dX2_putInOrder_25 : decode cX2_putInOrder 25 = .ok (.aload_n 0, 1) := by decide +kernel
theorem dX2_putInOrder_26 : decode cX2_putInOrder 26 = .ok (.iload_n 2, 1) := by decide +kernel
theorem dX2_putInOrder_27 : decode cX2_putInOrder 27 = .ok (.invokevirtual 132, 3) := by decide +kernel
theorem dX2_putInOrder_30 : decode cX2_putInOrder 30 = .ok (.iastore, 1) := by decide +kernel
theorem dX2_putInOrder_31 : decode cX2_putInOrder 31 = .ok (.aload_n 0, 1) := by decide +kernel
theorem dX2_putInOrder_32 : decode cX2_putInOrder 32 = .ok (.iload_n 2, 1) := by decide +kernel
theorem dX2_putInOrder_33 : decode cX2_putInOrder 33 = .ok (.iload_n 1, 1) := by decide +kernel
theorem dX2_putInOrder_34 : decode cX2_putInOrder 34 = .ok (.invokevirtual 135, 3) := by decide +kernel
theorem dX2_putInOrder_37 : decode cX2_putInOrder 37 = .ok (.iinc 1 1, 3) := by decide +kernel
theorem dX2_putInOrder_40 : decode cX2_putInOrder 40 = .ok (.iinc 2 1, 3) := by decide +kernel
theorem dX2_putInOrder_43 : decode cX2_putInOrder 43 = .ok (.goto (-39), 3) := by decide +kernel
theorem dX2_putInOrder_46 : decode cX2_putInOrder 46 = .ok (.iload_n 1, 1) := by decide +kernel
theorem dX2_putInOrder_47 : decode cX2_putInOrder 47 = .ok (.ireturn, 1) := by decide +kernel
theorem dX2_insertInOrder_0 : decode cX2_insertInOrder 0 = .ok (.iload_n 2, 1) := by decide +kernel
theorem dX2_insertInOrder_1 : decode cX2_insertInOrder 1 = .ok (.istore_n 3, 1) := by decide +kernel
theorem dX2_insertInOrder_2 : decode cX2_insertInOrder 2 = .ok (.iload_n 3, 1) := by decide +kernel
theorem dX2_insertInOrder_3 : decode cX2_insertInOrder 3 = .ok (.ifCond .le 45, 3) := by decide +kernel
theorem dX2_insertInOrder_6 : decode cX2_insertInOrder 6 = .ok (.aload_n 0, 1) := by decide +kernel
theorem dX2_insertInOrder_7 : decode cX2_insertInOrder 7 = .ok (.getfield 24, 3) := by decide +kernel
theorem dX2_insertInOrder_10 : decode cX2_insertInOrder 10 = .ok (.aload_n 0, 1) := by decide +kernel
theorem dX2_insertInOrder_11 : decode cX2_insertInOrder 11 = .ok (.getfield 27, 3) := by decide +kernel
theorem dX2_insertInOrder_14 : decode cX2_insertInOrder 14 = .ok (.iload_n 3, 1) := by decide +kernel
theorem dX2_insertInOrder_15 : decode cX2_insertInOrder 15 = .ok (.iconst 1, 1) := by decide +kernel
theorem dX2_insertInOrder_16 : decode cX2_insertInOrder 16 = .ok (.isub, 1) := by decide +kernel
theorem dX2_insertInOrder_17 : decode cX2_insertInOrder 17 = .ok (.iaload, 1) := by decide +kernel
theorem dX2_insertInOrder_18 : decode cX2_insertInOrder 18 = .ok (.iaload, 1) := by decide +kernel
theorem dX2_insertInOrder_19 : decode cX2_insertInOrder 19 = .ok (.aload_n 0, 1) := by decide +kernel
theorem dX2_insertInOrder_20 : decode cX2_insertInOrder 20 = .ok (.getfield 24, 3) := by decide +kernel
theorem dX2_insertInOrder_23 : decode cX2_insertInOrder 23 = .ok (.iload_n 1, 1) := by decide +kernel
theorem dX2_insertInOrder_24 : decode cX2_insertInOrder 24 = .ok (.iaload, 1) := by decide +kernel
theorem dX2_insertInOrder_25 : decode cX2_insertInOrder 25 = .ok (.if_icmp .ge 23, 3) := by decide +kernel
theorem dX2_insertInOrder_28 : decode cX2_insertInOrder 28 = .ok (.aload_n 0, 1) := by decide +kernel
theorem dX2_insertInOrder_29 : decode cX2_insertInOrder 29 = .ok (.getfield 27, 3) := by decide +kernel
theorem dX2_insertInOrder_32 : decode cX2_insertInOrder 32 = .ok (.iload_n 3, 1) := by decide +kernel
theorem dX2_insertInOrder_33 : decode cX2_insertInOrder 33 = .ok (.aload_n 0, 1) := by decide +kernel
theorem dX2_insertInOrder_34 : decode cX2_insertInOrder 34 = .ok (.getfield 27, 3) := by decide +kernel
theorem dX2_insertInOrder_37 : decode cX2_insertInOrder 37 = .ok (.iload_n 3, 1) := by decide +kernel
theorem dX2_insertInOrder_38 : decode cX2_insertInOrder 38 = .ok (.iconst 1, 1) := by decide +kernel
theorem dX2_insertInOrder_39 : decode cX2_insertInOrder 39 = .ok (.isub, 1) := by decide +kernel
theorem dX2_insertInOrder_40 : decode cX2_insertInOrder 40 = .ok (.iaload, 1) := by decide +kernel
theorem dX2_insertInOrder_41 : decode cX2_insertInOrder 41 = .ok (.iastore, 1) := by decide +kernel
theorem dX2_insertInOrder_42 : decode cX2_insertInOrder 42 = .ok (.iinc 3 (-1), 3) := by decide +kernel
theorem dX2_insertInOrder_45 : decode cX2_insertInOrder 45 = .ok (.goto (-43), 3) := by decide +kernel
theorem dX2_insertInOrder_48 : decode cX2_insertInOrder 48 = .ok (.aload_n 0, 1) := by decide +kernel
theorem dX2_insertInOrder_49 : decode cX2_insertInOrder 49 = .ok (.getfield 27, 3) := by decide +kernel
theorem dX2_insertInOrder_52 : decode cX2_insertInOrder 52 = .ok (.iload_n 3, 1) := by decide +kernel
theorem dX2_insertInOrder_53 : decode cX2_insertInOrder 53 = .ok (.iload_n 1, 1) := by decide +kernel
theorem dX2_insertInOrder_54 : decode cX2_insertInOrder 54 = .ok (.iastore, 1) := by decide +kernel
theorem dX2_insertInOrder_55 : decode cX2_insertInOrder 55 = .ok (.return_, 1) := by decide +kernel
theorem dX2_worthOf_0 : decode cX2_worthOf 0 = .ok (.aload_n 0, 1) := by decide +kernel
theorem dX2_worthOf_1 : decode cX2_worthOf 1 = .ok (.getfield 56, 3) := by decide +kernel
theorem dX2_worthOf_4 : decode cX2_worthOf 4 = .ok (.aload_n 0, 1) := by decide +kernel
theorem dX2_worthOf_5 : decode cX2_worthOf 5 = .ok (.getfield 18, 3) := by decide +kernel
theorem dX2_worthOf_8 : decode cX2_worthOf 8 = .ok (.iload_n 1, 1) := by decide +kernel
theorem dX2_worthOf_9 : decode cX2_worthOf 9 = .ok (.iaload, 1) := by decide +kernel
theorem dX2_worthOf_10 : decode cX2_worthOf 10 = .ok (.isub, 1) := by decide +kernel
theorem dX2_worthOf_11 : decode cX2_worthOf 11 = .ok (.istore_n 2, 1) := by decide +kernel
theorem dX2_worthOf_12 : decode cX2_worthOf 12 = .ok (.aload_n 0, 1) := by decide +kernel
theorem dX2_worthOf_13 : decode cX2_worthOf 13 = .ok (.iload_n 1, 1) := by decide +kernel
theorem dX2_worthOf_14 : decode cX2_worthOf 14 = .ok (.invokevirtual 139, 3) := by decide +kernel
theorem dX2_worthOf_17 : decode cX2_worthOf 17 = .ok (.ifCond .eq 9, 3) := by decide +kernel
theorem dX2_worthOf_20 : decode cX2_worthOf 20 = .ok (.iload_n 2, 1) := by decide +kernel
theorem dX2_worthOf_21 : decode cX2_worthOf 21 = .ok (.iconst 5, 1) := by decide +kernel
theorem dX2_worthOf_22 : decode cX2_worthOf 22 = .ok (.iadd, 1) := by decide +kernel
theorem dX2_worthOf_23 : decode cX2_worthOf 23 = .ok (.goto 4, 3) := by decide +kernel
theorem dX2_worthOf_26 : decode cX2_worthOf 26 = .ok (.iload_n 2, 1) := by decide +kernel
theorem dX2_worthOf_27 : decode cX2_worthOf 27 = .ok (.ireturn, 1) := by decide +kernel
theorem dX2_isLookedAt_0 : decode cX2_isLookedAt 0 = .ok (.iload_n 1, 1) := by decide +kernel
theorem dX2_isLookedAt_1 : decode cX2_isLookedAt 1 = .ok (.bipush 8, 2) := by decide +kernel
theorem dX2_isLookedAt_3 : decode cX2_isLookedAt 3 = .ok (.irem, 1) := by decide +kernel
theorem dX2_isLookedAt_4 : decode cX2_isLookedAt 4 = .ok (.aload_n 0, 1) := by decide +kernel
theorem dX2_isLookedAt_5 : decode cX2_isLookedAt 5 = .ok (.getfield 59, 3) := by decide +kernel
theorem dX2_isLookedAt_8 : decode cX2_isLookedAt 8 = .ok (.bipush 8, 2) := by decide +kernel
theorem dX2_isLookedAt_10 : decode cX2_isLookedAt 10 = .ok (.irem, 1) := by decide +kernel
theorem dX2_isLookedAt_11 : decode cX2_isLookedAt 11 = .ok (.isub, 1) := by decide +kernel
theorem dX2_isLookedAt_12 : decode cX2_isLookedAt 12 = .ok (.invokestatic 143, 3) := by decide +kernel
theorem dX2_isLookedAt_15 : decode cX2_isLookedAt 15 = .ok (.istore_n 2, 1) := by decide +kernel
theorem dX2_isLookedAt_16 : decode cX2_isLookedAt 16 = .ok (.iload_n 1, 1) := by decide +kernel
theorem dX2_isLookedAt_17 : decode cX2_isLookedAt 17 = .ok (.bipush 8, 2) := by decide +kernel
theorem dX2_isLookedAt_19 : decode cX2_isLookedAt 19 = .ok (.idiv, 1) := by decide +kernel
theorem dX2_isLookedAt_20 : decode cX2_isLookedAt 20 = .ok (.aload_n 0, 1) := by decide +kernel
theorem dX2_isLookedAt_21 : decode cX2_isLookedAt 21 = .ok (.getfield 59, 3) := by decide +kernel
theorem dX2_isLookedAt_24 : decode cX2_isLookedAt 24 = .ok (.bipush 8, 2) := by decide +kernel
theorem dX2_isLookedAt_26 : decode cX2_isLookedAt 26 = .ok (.idiv, 1) := by decide +kernel
theorem dX2_isLookedAt_27 : decode cX2_isLookedAt 27 = .ok (.isub, 1) := by decide +kernel
theorem dX2_isLookedAt_28 : decode cX2_isLookedAt 28 = .ok (.invokestatic 143, 3) := by decide +kernel
theorem dX2_isLookedAt_31 : decode cX2_isLookedAt 31 = .ok (.istore_n 3, 1) := by decide +kernel
theorem dX2_isLookedAt_32 : decode cX2_isLookedAt 32 = .ok (.iload_n 2, 1) := by decide +kernel
theorem dX2_isLookedAt_33 : decode cX2_isLookedAt 33 = .ok (.iconst 1, 1) := by decide +kernel
theorem dX2_isLookedAt_34 : decode cX2_isLookedAt 34 = .ok (.if_icmp .gt 12, 3) := by decide +kernel
theorem dX2_isLookedAt_37 : decode cX2_isLookedAt 37 = .ok (.iload_n 3, 1) := by decide +kernel
theorem dX2_isLookedAt_38 : decode cX2_isLookedAt 38 = .ok (.iconst 1, 1) := by decide +kernel
theorem dX2_isLookedAt_39 : decode cX2_isLookedAt 39 = .ok (.if_icmp .gt 7, 3) := by decide +kernel
theorem dX2_isLookedAt_42 : decode cX2_isLookedAt 42 = .ok (.iconst 1, 1) := by decide +kernel
theorem dX2_isLookedAt_43 : decode cX2_isLookedAt 43 = .ok (.goto 4, 3) := by decide +kernel
theorem dX2_isLookedAt_46 : decode cX2_isLookedAt 46 = .ok (.iconst 0, 1) := by decide +kernel
theorem dX2_isLookedAt_47 : decode cX2_isLookedAt 47 = .ok (.ireturn, 1) := by decide +kernel
theorem dX2_sendTile_0 : decode cX2_sendTile 0 = .ok (.aload_n 0, 1) := by decide +kernel
theorem dX2_sendTile_1 : decode cX2_sendTile 1 = .ok (.getfield 9, 3) := by decide +kernel
theorem dX2_sendTile_4 : decode cX2_sendTile 4 = .ok (.iload_n 1, 1) := by decide +kernel
theorem dX2_sendTile_5 : decode cX2_sendTile 5 = .ok (.iaload, 1) := by decide +kernel
theorem dX2_sendTile_6 : decode cX2_sendTile 6 = .ok (.istore_n 3, 1) := by decide +kernel
theorem dX2_sendTile_7 : decode cX2_sendTile 7 = .ok (.aload_n 0, 1) := by decide +kernel
theorem dX2_sendTile_8 : decode cX2_sendTile 8 = .ok (.getfield 46, 3) := by decide +kernel
theorem dX2_sendTile_11 : decode cX2_sendTile 11 = .ok (.iload_n 3, 1) := by decide +kernel
theorem dX2_sendTile_12 : decode cX2_sendTile 12 = .ok (.invokevirtual 148, 3) := by decide +kernel
theorem dX2_sendTile_15 : decode cX2_sendTile 15 = .ok (.ifCond .eq 12, 3) := by decide +kernel
theorem dX2_sendTile_18 : decode cX2_sendTile 18 = .ok (.aload_n 0, 1) := by decide +kernel
theorem dX2_sendTile_19 : decode cX2_sendTile 19 = .ok (.iload_n 1, 1) := by decide +kernel
theorem dX2_sendTile_20 : decode cX2_sendTile 20 = .ok (.iconst 1, 1) := by decide +kernel
theorem dX2_sendTile_21 : decode cX2_sendTile 21 = .ok (.iconst 1, 1) := by decide +kernel
theorem dX2_sendTile_22 : decode cX2_sendTile 22 = .ok (.iload_n 2, 1) := by decide +kernel
theorem dX2_sendTile_23 : decode cX2_sendTile 23 = .ok (.invokevirtual 151, 3) := by decide +kernel
theorem dX2_sendTile_26 : decode cX2_sendTile 26 = .ok (.ireturn, 1) := by decide +kernel
theorem dX2_sendTile_27 : decode cX2_sendTile 27 = .ok (.aload_n 0, 1) := by decide +kernel
theorem dX2_sendTile_28 : decode cX2_sendTile 28 = .ok (.iload_n 1, 1) := by decide +kernel
theorem dX2_sendTile_29 : decode cX2_sendTile 29 = .ok (.invokevirtual 100, 3) := by decide +kernel
theorem dX2_sendTile_32 : decode cX2_sendTile 32 = .ok (.iconst 2, 1) := by decide +kernel
theorem dX2_sendTile_33 : decode cX2_sendTile 33 = .ok (.if_icmp .ne 10, 3) := by decide +kernel
theorem dX2_sendTile_36 : decode cX2_sendTile 36 = .ok (.aload_n 0, 1) := by decide +kernel
theorem dX2_sendTile_37 : decode cX2_sendTile 37 = .ok (.iload_n 1, 1) := by decide +kernel
theorem dX2_sendTile_38 : decode cX2_sendTile 38 = .ok (.iload_n 2, 1) := by decide +kernel
theorem dX2_sendTile_39 : decode cX2_sendTile 39 = .ok (.invokevirtual 155, 3) := by decide +kernel
theorem dX2_sendTile_42 : decode cX2_sendTile 42 = .ok (.ireturn, 1) := by decide +kernel
theorem dX2_sendTile_43 : decode cX2_sendTile 43 = .ok (.aload_n 0, 1) := by decide +kernel
theorem dX2_sendTile_44 : decode cX2_sendTile 44 = .ok (.iload_n 1, 1) := by decide +kernel
theorem dX2_sendTile_45 : decode cX2_sendTile 45 = .ok (.iconst 3, 1) := by decide +kernel
theorem dX2_sendTile_46 : decode cX2_sendTile 46 = .ok (.iload_n 3, 1) := by decide +kernel
theorem dX2_sendTile_47 : decode cX2_sendTile 47 = .ok (.invokestatic 158, 3) := by decide +kernel
theorem dX2_sendTile_50 : decode cX2_sendTile 50 = .ok (.iload_n 2, 1) := by decide +kernel
theorem dX2_sendTile_51 : decode cX2_sendTile 51 = .ok (.invokevirtual 151, 3) := by decide +kernel
theorem dX2_sendTile_54 : decode cX2_sendTile 54 = .ok (.ireturn, 1) := by decide +kernel
theorem dX2_sendPicture_0 : decode cX2_sendPicture 0 = .ok (.iload_n 3, 1) := by decide +kernel
theorem dX2_sendPicture_1 : decode cX2_sendPicture 1 = .ok (.iload 4, 2) := by decide +kernel
theorem dX2_sendPicture_3 : decode cX2_sendPicture 3 = .ok (.if_icmp .le 5, 3) := by decide +kernel
theorem dX2_sendPicture_6 : decode cX2_sendPicture 6 = .ok (.iconst 0, 1) := by decide +kernel
theorem dX2_sendPicture_7 : decode cX2_sendPicture 7 = .ok (.ireturn, 1) := by decide +kernel
theorem dX2_sendPicture_8 : decode cX2_sendPicture 8 = .ok (.aload_n 0, 1) := by decide +kernel
theorem dX2_sendPicture_9 : decode cX2_sendPicture 9 = .ok (.getfield 15, 3) := by decide +kernel
theorem dX2_sendPicture_12 : decode cX2_sendPicture 12 = .ok (.iload_n 1, 1) := by decide +kernel
theorem dX2_sendPicture_13 : decode cX2_sendPicture 13 = .ok (.aload_n 0, 1) := by decide +kernel
theorem dX2_sendPicture_14 : decode cX2_sendPicture 14 = .ok (.getfield 9, 3) := by decide +kernel
theorem dX2_sendPicture_17 : decode cX2_sendPicture 17 = .ok (.iload_n 1, 1) := by decide +kernel
theorem dX2_sendPicture_18 : decode cX2_sendPicture 18 = .ok (.iaload, 1) := by decide +kernel
theorem dX2_sendPicture_19 : decode cX2_sendPicture 19 = .ok (.iastore, 1) := by decide +kernel
theorem dX2_sendPicture_20 : decode cX2_sendPicture 20 = .ok (.aload_n 0, 1) := by decide +kernel
theorem dX2_sendPicture_21 : decode cX2_sendPicture 21 = .ok (.getfield 18, 3) := by decide +kernel
theorem dX2_sendPicture_24 : decode cX2_sendPicture 24 = .ok (.iload_n 1, 1) := by decide +kernel
theorem dX2_sendPicture_25 : decode cX2_sendPicture 25 = .ok (.iconst (-1), 1) := by decide +kernel
theorem dX2_sendPicture_26 : decode cX2_sendPicture 26 = .ok (.iastore, 1) := by decide +kernel
theorem dX2_sendPicture_27 : decode cX2_sendPicture 27 = .ok (.aload_n 0, 1) := by decide +kernel
theorem dX2_sendPicture_28 : decode cX2_sendPicture 28 = .ok (.getfield 46, 3) := by decide +kernel
theorem dX2_sendPicture_31 : decode cX2_sendPicture 31 = .ok (.aload_n 0, 1) := by decide +kernel
theorem dX2_sendPicture_32 : decode cX2_sendPicture 32 = .ok (.getfield 9, 3) := by decide +kernel
theorem dX2_sendPicture_35 : decode cX2_sendPicture 35 = .ok (.iload_n 1, 1) := by decide +kernel
theorem dX2_sendPicture_36 : decode cX2_sendPicture 36 = .ok (.iaload, 1) := by decide +kernel
theorem dX2_sendPicture_37 : decode cX2_sendPicture 37 = .ok (.invokevirtual 161, 3) := by decide +kernel
theorem dX2_sendPicture_40 : decode cX2_sendPicture 40 = .ok (.aload_n 0, 1) := by decide +kernel
theorem dX2_sendPicture_41 : decode cX2_sendPicture 41 = .ok (.getfield 50, 3) := by decide +kernel
theorem dX2_sendPicture_44 : decode cX2_sendPicture 44 = .ok (.iload_n 2, 1) := by decide +kernel
theorem dX2_sendPicture_45 : decode cX2_sendPicture 45 = .ok (.dup2, 1) := by decide +kernel
theorem dX2_sendPicture_46 : decode cX2_sendPicture 46 = .ok (.iaload, 1) := by decide +kernel
theorem dX2_sendPicture_47 : decode cX2_sendPicture 47 = .ok (.iconst 1, 1) := by decide +kernel
theorem dX2_sendPicture_48 : decode cX2_sendPicture 48 = .ok (.iadd, 1) := by decide +kernel
theorem dX2_sendPicture_49 : decode cX2_sendPicture 49 = .ok (.iastore, 1) := by decide +kernel
theorem dX2_sendPicture_50 : decode cX2_sendPicture 50 = .ok (.iload_n 3, 1) := by decide +kernel
theorem dX2_sendPicture_51 : decode cX2_sendPicture 51 = .ok (.ireturn, 1) := by decide +kernel
theorem dX2_sendRoughly_0 : decode cX2_sendRoughly 0 = .ok (.sipush 1000, 3) := by decide +kernel
theorem dX2_sendRoughly_3 : decode cX2_sendRoughly 3 = .ok (.aload_n 0, 1) := by decide +kernel
theorem dX2_sendRoughly_4 : decode cX2_sendRoughly 4 = .ok (.getfield 9, 3) := by decide +kernel
theorem dX2_sendRoughly_7 : decode cX2_sendRoughly 7 = .ok (.iload_n 1, 1) := by decide +kernel
theorem dX2_sendRoughly_8 : decode cX2_sendRoughly 8 = .ok (.iaload, 1) := by decide +kernel
theorem dX2_sendRoughly_9 : decode cX2_sendRoughly 9 = .ok (.bipush 16, 2) := by decide +kernel
theorem dX2_sendRoughly_11 : decode cX2_sendRoughly 11 = .ok (.idiv, 1) := by decide +kernel
theorem dX2_sendRoughly_12 : decode cX2_sendRoughly 12 = .ok (.iadd, 1) := by decide +kernel
theorem dX2_sendRoughly_13 : decode cX2_sendRoughly 13 = .ok (.istore_n 3, 1) := by decide +kernel
theorem dX2_sendRoughly_14 : decode cX2_sendRoughly 14 = .ok (.iconst 2, 1) := by decide +kernel
theorem dX2_sendRoughly_15 : decode cX2_sendRoughly 15 = .ok (.iload_n 2, 1) := by decide +kernel
theorem dX2_sendRoughly_16 : decode cX2_sendRoughly 16 = .ok (.if_icmp .gt 13, 3) := by decide +kernel
theorem dX2_sendRoughly_19 : decode cX2_sendRoughly 19 = .ok (.aload_n 0, 1) := by decide +kernel
theorem dX2_sendRoughly_20 : decode cX2_sendRoughly 20 = .ok (.getfield 15, 3) := by decide +kernel
theorem dX2_sendRoughly_23 : decode cX2_sendRoughly 23 = .ok (.iload_n 1, 1) := by decide +kernel
theorem dX2_sendRoughly_24 : decode cX2_sendRoughly 24 = .ok (.iaload, 1) := by decide +kernel
theorem dX2_sendRoughly_25 : decode cX2_sendRoughly 25 = .ok (.iload_n 3, 1) := by decide +kernel
theorem dX2_sendRoughly_26 : decode cX2_sendRoughly 26 = .ok (.if_icmp .ne 5, 3) := by decide +kernel
theorem dX2_sendRoughly_29 : decode cX2_sendRoughly 29 = .ok (.iconst 0, 1) := by decide +kernel
theorem dX2_sendRoughly_30 : decode cX2_sendRoughly 30 = .ok (.ireturn, 1) := by decide +kernel
theorem dX2_sendRoughly_31 : decode cX2_sendRoughly 31 = .ok (.aload_n 0, 1) := by decide +kernel
theorem dX2_sendRoughly_32 : decode cX2_sendRoughly 32 = .ok (.getfield 15, 3) := by decide +kernel
theorem dX2_sendRoughly_35 : decode cX2_sendRoughly 35 = .ok (.iload_n 1, 1) := by decide +kernel
theorem dX2_sendRoughly_36 : decode cX2_sendRoughly 36 = .ok (.iload_n 3, 1) := by decide +kernel
theorem dX2_sendRoughly_37 : decode cX2_sendRoughly 37 = .ok (.iastore, 1) := by decide +kernel
theorem dX2_sendRoughly_38 : decode cX2_sendRoughly 38 = .ok (.aload_n 0, 1) := by decide +kernel
theorem dX2_sendRoughly_39 : decode cX2_sendRoughly 39 = .ok (.getfield 50, 3) := by decide +kernel
theorem dX2_sendRoughly_42 : decode cX2_sendRoughly 42 = .ok (.iconst 2, 1) := by decide +kernel
theorem dX2_sendRoughly_43 : decode cX2_sendRoughly 43 = .ok (.dup2, 1) := by decide +kernel
theorem dX2_sendRoughly_44 : decode cX2_sendRoughly 44 = .ok (.iaload, 1) := by decide +kernel
theorem dX2_sendRoughly_45 : decode cX2_sendRoughly 45 = .ok (.iconst 1, 1) := by decide +kernel
theorem dX2_sendRoughly_46 : decode cX2_sendRoughly 46 = .ok (.iadd, 1) := by decide +kernel
theorem dX2_sendRoughly_47 : decode cX2_sendRoughly 47 = .ok (.iastore, 1) := by decide +kernel
theorem dX2_sendRoughly_48 : decode cX2_sendRoughly 48 = .ok (.iconst 2, 1) := by decide +kernel
theorem dX2_sendRoughly_49 : decode cX2_sendRoughly 49 = .ok (.ireturn, 1) := by decide +kernel
theorem dX2_settleChanges_0 : decode cX2_settleChanges 0 = .ok (.iconst 0, 1) := by decide +kernel
theorem dX2_settleChanges_1 : decode cX2_settleChanges 1 = .ok (.istore_n 1, 1) := by decide +kernel
theorem dX2_settleChanges_2 : decode cX2_settleChanges 2 = .ok (.iload_n 1, 1) := by decide +kernel
theorem dX2_settleChanges_3 : decode cX2_settleChanges 3 = .ok (.bipush 48, 2) := by decide +kernel
theorem dX2_settleChanges_5 : decode cX2_settleChanges 5 = .ok (.if_icmp .ge 27, 3) := by decide +kernel
theorem dX2_settleChanges_8 : decode cX2_settleChanges 8 = .ok (.aload_n 0, 1) := by decide +kernel
theorem dX2_settleChanges_9 : decode cX2_settleChanges 9 = .ok (.getfield 21, 3) := by decide +kernel
theorem dX2_settleChanges_12 : decode cX2_settleChanges 12 = .ok (.iload_n 1, 1) := by decide +kernel
theorem dX2_settleChanges_13 : decode cX2_settleChanges 13 = .ok (.aload_n 0, 1) := by decide +kernel
theorem dX2_settleChanges_14 : decode cX2_settleChanges 14 = .ok (.getfield 21, 3) := by decide +kernel
theorem dX2_settleChanges_17 : decode cX2_settleChanges 17 = .ok (.iload_n 1, 1) := by decide +kernel
theorem dX2_settleChanges_18 : decode cX2_settleChanges 18 = .ok (.iaload, 1) := by decide +kernel
theorem dX2_settleChanges_19 : decode cX2_settleChanges 19 = .ok (.iconst 1, 1) := by decide +kernel
theorem dX2_settleChanges_20 : decode cX2_settleChanges 20 = .ok (.ishl, 1) := by decide +kernel
theorem dX2_settleChanges_21 : decode cX2_settleChanges 21 = .ok (.sipush 255, 3) := by decide +kernel
theorem dX2_settleChanges_24 : decode cX2_settleChanges 24 = .ok (.iand, 1) := by decide +kernel
theorem dX2_settleChanges_25 : decode cX2_settleChanges 25 = .ok (.iastore, 1) := by decide +kernel
theorem dX2_settleChanges_26 : decode cX2_settleChanges 26 = .ok (.iinc 1 1, 3) := by decide +kernel
theorem dX2_settleChanges_29 : decode cX2_settleChanges 29 = .ok (.goto (-27), 3) := by decide +kernel
theorem dX2_settleChanges_32 : decode cX2_settleChanges 32 = .ok (.return_, 1) := by decide +kernel
theorem dX3_init_0 : decode cX3_init 0 = .ok (.aload_n 0, 1) := by decide +kernel
theorem dX3_init_1 : decode cX3_init 1 = .ok (.invokespecial 1, 3) := by decide +kernel
theorem dX3_init_4 : decode cX3_init 4 = .ok (.aload_n 0, 1) := by decide +kernel
theorem dX3_init_5 : decode cX3_init 5 = .ok (.new 7, 3) := by decide +kernel
theorem dX3_init_8 : decode cX3_init 8 = .ok (.dup, 1) := by decide +kernel
theorem dX3_init_9 : decode cX3_init 9 = .ok (.invokespecial 9, 3) := by decide +kernel
theorem dX3_init_12 : decode cX3_init 12 = .ok (.putfield 10, 3) := by decide +kernel
theorem dX3_init_15 : decode cX3_init 15 = .ok (.aload_n 0, 1) := by decide +kernel
theorem dX3_init_16 : decode cX3_init 16 = .ok (.new 7, 3) := by decide +kernel
theorem dX3_init_19 : decode cX3_init 19 = .ok (.dup, 1) := by decide +kernel
theorem dX3_init_20 : decode cX3_init 20 = .ok (.invokespecial 9, 3) := by decide +kernel
theorem dX3_init_23 : decode cX3_init 23 = .ok (.putfield 16, 3) := by decide +kernel
theorem dX3_init_26 : decode cX3_init 26 = .ok (.return_, 1) := by decide +kernel
theorem dX3_fill_0 : decode cX3_fill 0 = .ok (.iload_n 1, 1) := by decide +kernel
theorem dX3_fill_1 : decode cX3_fill 1 = .ok (.iload_n 2, 1) := by decide +kernel
theorem dX3_fill_2 : decode cX3_fill 2 = .ok (.iload_n 3, 1) := by decide +kernel
theorem dX3_fill_3 : decode cX3_fill 3 = .ok (.iload 4, 2) := by decide +kernel
theorem dX3_fill_5 : decode cX3_fill 5 = .ok (.invokestatic 19, 3) := by decide +kernel
theorem dX3_fill_8 : decode cX3_fill 8 = .ok (.iload 5, 2) := by decide +kernel
theorem dX3_fill_10 : decode cX3_fill 10 = .ok (.ifCond .lt 11, 3) := by decide +kernel
theorem dX3_fill_13 : decode cX3_fill 13 = .ok (.iload 5, 2) := by decide +kernel
theorem dX3_fill_15 : decode cX3_fill 15 = .ok (.sipush 255, 3) := by decide +kernel
theorem dX3_fill_18 : decode cX3_fill 18 = .ok (.if_icmp .le 13, 3) := by decide +kernel
theorem dX3_fill_21 : decode cX3_fill 21 = .ok (.new 23, 3) := by decide +kernel
theorem dX3_fill_24 : decode cX3_fill 24 = .ok (.dup, 1) := by decide +kernel
theorem dX3_fill_25 : decode cX3_fill 25 = .ok (.ldc 25, 2) := by decide +kernel
theorem dX3_fill_27 : decode cX3_fill 27 = .ok (.invokespecial 27, 3) := by decide +kernel
theorem dX3_fill_30 : decode cX3_fill 30 = .ok (.athrow, 1) := by decide +kernel
theorem dX3_fill_31 : decode cX3_fill 31 = .ok (.aload_n 0, 1) := by decide +kernel
theorem dX3_fill_32 : decode cX3_fill 32 = .ok (.getfield 10, 3) := by decide +kernel
theorem dX3_fill_35 : decode cX3_fill 35 = .ok (.iload_n 1, 1) := by decide +kernel
theorem dX3_fill_36 : decode cX3_fill 36 = .ok (.iload_n 2, 1) := by decide +kernel
theorem dX3_fill_37 : decode cX3_fill 37 = .ok (.iload_n 3, 1) := by decide +kernel
theorem dX3_fill_38 : decode cX3_fill 38 = .ok (.iload 4, 2) := by decide +kernel
theorem dX3_fill_40 : decode cX3_fill 40 = .ok (.iload 5, 2) := by decide +kernel
theorem dX3_fill_42 : decode cX3_fill 42 = .ok (.invokevirtual 30, 3) := by decide +kernel
theorem dX3_fill_45 : decode cX3_fill 45 = .ok (.aload_n 0, 1) := by decide +kernel
theorem dX3_fill_46 : decode cX3_fill 46 = .ok (.getfield 10, 3) := by decide +kernel
theorem dX3_fill_49 : decode cX3_fill 49 = .ok (.invokevirtual 34, 3) := by decide +kernel
theorem dX3_fill_52 : decode cX3_fill 52 = .ok (.ireturn, 1) := by decide +kernel
theorem dX3_move_0 : decode cX3_move 0 = .ok (.iload_n 1, 1) := by decide +kernel
theorem dX3_move_1 : decode cX3_move 1 = .ok (.iload_n 2, 1) := by decide +kernel
theorem dX3_move_2 : decode cX3_move 2 = .ok (.iload_n 3, 1) := by decide +kernel
theorem dX3_move_3 : decode cX3_move 3 = .ok (.iload 4, 2) := by decide +kernel
theorem dX3_move_5 : decode cX3_move 5 = .ok (.invokestatic 19, 3) := by decide +kernel
theorem dX3_move_8 : decode cX3_move 8 = .ok (.iload 5, 2) := by decide +kernel
theorem dX3_move_10 : decode cX3_move 10 = .ok (.iload 6, 2) := by decide +kernel
theorem dX3_move_12 : decode cX3_move 12 = .ok (.iload_n 3, 1) := by decide +kernel
theorem dX3_move_13 : decode cX3_move 13 = .ok (.iload 4, 2) := by decide +kernel
theorem dX3_move_15 : decode cX3_move 15 = .ok (.invokestatic 19, 3) := by decide +kernel
theorem dX3_move_18 : decode cX3_move 18 = .ok (.iload_n 1, 1) := by decide +kernel
theorem dX3_move_19 : decode cX3_move 19 = .ok (.iload 5, 2) := by decide +kernel
theorem dX3_move_21 : decode cX3_move 21 = .ok (.if_icmp .ne 19, 3) := by decide +kernel
theorem dX3_move_24 : decode cX3_move 24 = .ok (.iload_n 2, 1) := by decide +kernel
theorem dX3_move_25 : decode cX3_move 25 = .ok (.iload 6, 2) := by decide +kernel
theorem dX3_move_27 : decode cX3_move 27 = .ok (.if_icmp .ne 13, 3) := by decide +kernel
theorem dX3_move_30 : decode cX3_move 30 = .ok (.new 23, 3) := by decide +kernel
theorem dX3_move_33 : decode cX3_move 33 = .ok (.dup, 1) := by decide +kernel
theorem dX3_move_34 : decode cX3_move 34 = .ok (.ldc 38, 2) := by decide +kernel
theorem dX3_move_36 : decode cX3_move 36 = .ok (.invokespecial 27, 3) := by decide +kernel
theorem dX3_move_39 : decode cX3_move 39 = .ok (.athrow, 1) := by decide +kernel
theorem dX3_move_40 : decode cX3_move 40 = .ok (.aload_n 0, 1) := by decide +kernel
theorem dX3_move_41 : decode cX3_move 41 = .ok (.getfield 10, 3) := by decide +kernel
theorem dX3_move_44 : decode cX3_move 44 = .ok (.iload_n 1, 1) := by decide +kernel
theorem dX3_move_45 : decode cX3_move 45 = .ok (.iload_n 2, 1) := by decide +kernel
theorem dX3_move_46 : decode cX3_move 46 = .ok (.iload_n 3, 1) := by decide +kernel
theorem dX3_move_47 : decode cX3_move 47 = .ok (.iload 4, 2) := by decide +kernel
theorem dX3_move_49 : decode cX3_move 49 = .ok (.iload 5, 2) := by decide +kernel
theorem dX3_move_51 : decode cX3_move 51 = .ok (.iload 6, 2) := by decide +kernel
theorem dX3_move_53 : decode cX3_move 53 = .ok (.invokevirtual 40, 3) := by decide +kernel
theorem dX3_move_56 : decode cX3_move 56 = .ok (.aload_n 0, 1) := by decide +kernel
theorem dX3_move_57 : decode cX3_move 57 = .ok (.getfield 10, 3) := by decide +kernel
theorem dX3_move_60 : decode cX3_move 60 = .ok (.getfield 44, 3) := by decide +kernel
theorem dX3_move_63 : decode cX3_move 63 = .ok (.ireturn, 1) := by decide +kernel
theorem dX3_look_0 : decode cX3_look 0 = .ok (.iload_n 1, 1) := by decide +kernel
theorem dX3_look_1 : decode cX3_look 1 = .ok (.iload_n 2, 1) := by decide +kernel
theorem dX3_look_2 : decode cX3_look 2 = .ok (.invokestatic 48, 3) := by decide +kernel
theorem dX3_look_5 : decode cX3_look 5 = .ok (.aload_n 0, 1) := by decide +kernel
theorem dX3_look_6 : decode cX3_look 6 = .ok (.getfield 10, 3) := by decide +kernel
theorem dX3_look_9 : decode cX3_look 9 = .ok (.getfield 52, 3) := by decide +kernel
theorem dX3_look_12 : decode cX3_look 12 = .ok (.istore_n 3, 1) := by decide +kernel
theorem dX3_look_13 : decode cX3_look 13 = .ok (.aload_n 0, 1) := by decide +kernel
theorem dX3_look_14 : decode cX3_look 14 = .ok (.getfield 10, 3) := by decide +kernel
theorem dX3_look_17 : decode cX3_look 17 = .ok (.iload_n 1, 1) := by decide +kernel
theorem dX3_look_18 : decode cX3_look 18 = .ok (.iload_n 2, 1) := by decide +kernel
theorem dX3_look_19 : decode cX3_look 19 = .ok (.invokestatic 55, 3) := by decide +kernel
theorem dX3_look_22 : decode cX3_look 22 = .ok (.putfield 52, 3) := by decide +kernel
theorem dX3_look_25 : decode cX3_look 25 = .ok (.iload_n 3, 1) := by decide +kernel
theorem dX3_look_26 : decode cX3_look 26 = .ok (.ireturn, 1) := by decide +kernel
theorem dX3_step_0 : decode cX3_step 0 = .ok (.iload_n 1, 1) := by decide +kernel
theorem dX3_step_1 : decode cX3_step 1 = .ok (.invokestatic 59, 3) := by decide +kernel
theorem dX3_step_4 : decode cX3_step 4 = .ok (.aload_n 0, 1) := by decide +kernel
theorem dX3_step_5 : decode cX3_step 5 = .ok (.getfield 10, 3) := by decide +kernel
theorem dX3_step_8 : decode cX3_step 8 = .ok (.iload_n 1, 1) := by decide +kernel
theorem dX3_step_9 : decode cX3_step 9 = .ok (.invokevirtual 63, 3) := by decide +kernel
theorem dX3_step_12 : decode cX3_step 12 = .ok (.ireturn, 1) := by decide +kernel
theorem dX3_time_0 : decode cX3_time 0 = .ok (.aload_n 0, 1) := by decide +kernel
theorem dX3_time_1 : decode cX3_time 1 = .ok (.getfield 10, 3) := by decide +kernel
theorem dX3_time_4 : decode cX3_time 4 = .ok (.getfield 67, 3) := by decide +kernel
theorem dX3_time_7 : decode cX3_time 7 = .ok (.ireturn, 1) := by decide +kernel
theorem dX3_near_0 : decode cX3_near 0 = .ok (.iload_n 1, 1) := by decide +kernel
theorem dX3_near_1 : decode cX3_near 1 = .ok (.iload_n 2, 1) := by decide +kernel
theorem dX3_near_2 : decode cX3_near 2 = .ok (.invokestatic 48, 3) := by decide +kernel
theorem dX3_near_5 : decode cX3_near 5 = .ok (.aload_n 0, 1) := by decide +kernel
theorem dX3_near_6 : decode cX3_near 6 = .ok (.getfield 10, 3) := by decide +kernel
theorem dX3_near_9 : decode cX3_near 9 = .ok (.getfield 70, 3) := by decide +kernel
theorem dX3_near_12 : decode cX3_near 12 = .ok (.iload_n 1, 1) := by decide +kernel
theorem dX3_near_13 : decode cX3_near 13 = .ok (.iload_n 2, 1) := by decide +kernel
theorem dX3_near_14 : decode cX3_near 14 = .ok (.invokestatic 55, 3) := by decide +kernel
theorem dX3_near_17 : decode cX3_near 17 = .ok (.iaload, 1) := by decide +kernel
theorem dX3_near_18 : decode cX3_near 18 = .ok (.ireturn, 1) := by decide +kernel
theorem dX3_far_0 : decode cX3_far 0 = .ok (.iload_n 1, 1) := by decide +kernel
theorem dX3_far_1 : decode cX3_far 1 = .ok (.iload_n 2, 1) := by decide +kernel
theorem dX3_far_2 : decode cX3_far 2 = .ok (.invokestatic 48, 3) := by decide +kernel
theorem dX3_far_5 : decode cX3_far 5 = .ok (.aload_n 0, 1) := by decide +kernel
theorem dX3_far_6 : decode cX3_far 6 = .ok (.getfield 10, 3) := by decide +kernel
theorem dX3_far_9 : decode cX3_far 9 = .ok (.getfield 74, 3) := by decide +kernel
theorem dX3_far_12 : decode cX3_far 12 = .ok (.iload_n 1, 1) := by decide +kernel
theorem dX3_far_13 : decode cX3_far 13 = .ok (.iload_n 2, 1) := by decide +kernel
theorem dX3_far_14 : decode cX3_far 14 = .ok (.invokestatic 55, 3) := by decide +kernel
theorem dX3_far_17 : decode cX3_far 17 = .ok (.iaload, 1) := by decide +kernel
theorem dX3_far_18 : decode cX3_far 18 = .ok (.ireturn, 1) := by decide +kernel
theorem dX3_kind_0 : decode cX3_kind 0 = .ok (.iload_n 1, 1) := by decide +kernel
theorem dX3_kind_1 : decode cX3_kind 1 = .ok (.iload_n 2, 1) := by decide +kernel
theorem dX3_kind_2 : decode cX3_kind 2 = .ok (.invokestatic 48, 3) := by decide +kernel
theorem dX3_kind_5 : decode cX3_kind 5 = .ok (.aload_n 0, 1) := by decide +kernel
theorem dX3_kind_6 : decode cX3_kind 6 = .ok (.getfield 10, 3) := by decide +kernel
theorem dX3_kind_9 : decode cX3_kind 9 = .ok (.iload_n 1, 1) := by decide +kernel
theorem dX3_kind_10 : decode cX3_kind 10 = .ok (.iload_n 2, 1) := by decide +kernel
theorem dX3_kind_11 : decode cX3_kind 11 = .ok (.invokestatic 55, 3) := by decide +kernel
theorem dX3_kind_14 : decode cX3_kind 14 = .ok (.invokevirtual 77, 3) := by decide +kernel
theorem dX3_kind_17 : decode cX3_kind 17 = .ok (.ireturn, 1) := by decide +kernel
theorem dX3_since_0 : decode cX3_since 0 = .ok (.iload_n 1, 1) := by decide +kernel
theorem dX3_since_1 : decode cX3_since 1 = .ok (.iload_n 2, 1) := by decide +kernel
theorem dX3_since_2 : decode cX3_since 2 = .ok (.invokestatic 48, 3) := by decide +kernel
theorem dX3_since_5 : decode cX3_since 5 = .ok (.aload_n 0, 1) := by decide +kernel
theorem dX3_since_6 : decode cX3_since 6 = .ok (.getfield 10, 3) := by decide +kernel
theorem dX3_since_9 : decode cX3_since 9 = .ok (.getfield 80, 3) := by decide +kernel
theorem dX3_since_12 : decode cX3_since 12 = .ok (.iload_n 1, 1) := by decide +kernel
theorem dX3_since_13 : decode cX3_since 13 = .ok (.iload_n 2, 1) := by decide +kernel
theorem dX3_since_14 : decode cX3_since 14 = .ok (.invokestatic 55, 3) := by decide +kernel
theorem dX3_since_17 : decode cX3_since 17 = .ok (.iaload, 1) := by decide +kernel
theorem dX3_since_18 : decode cX3_since 18 = .ok (.ireturn, 1) := by decide +kernel
theorem dX3_unlike_0 : decode cX3_unlike 0 = .ok (.aload_n 0, 1) := by decide +kernel
theorem dX3_unlike_1 : decode cX3_unlike 1 = .ok (.getfield 10, 3) := by decide +kernel
theorem dX3_unlike_4 : decode cX3_unlike 4 = .ok (.invokevirtual 83, 3) := by decide +kernel
theorem dX3_unlike_7 : decode cX3_unlike 7 = .ok (.lreturn, 1) := by decide +kernel
theorem dX3_rough_0 : decode cX3_rough 0 = .ok (.aload_n 0, 1) := by decide +kernel
theorem dX3_rough_1 : decode cX3_rough 1 = .ok (.getfield 10, 3) := by decide +kernel
theorem dX3_rough_4 : decode cX3_rough 4 = .ok (.invokevirtual 87, 3) := by decide +kernel
theorem dX3_rough_7 : decode cX3_rough 7 = .ok (.ireturn, 1) := by decide +kernel
theorem dX3_waiting_0 : decode cX3_waiting 0 = .ok (.aload_n 0, 1) := by decide +kernel
theorem dX3_waiting_1 : decode cX3_waiting 1 = .ok (.getfield 10, 3) := by decide +kernel
theorem dX3_waiting_4 : decode cX3_waiting 4 = .ok (.getfield 44, 3) := by decide +kernel
theorem dX3_waiting_7 : decode cX3_waiting 7 = .ok (.ireturn, 1) := by decide +kernel
theorem dX3_known_0 : decode cX3_known 0 = .ok (.iload_n 1, 1) := by decide +kernel
theorem dX3_known_1 : decode cX3_known 1 = .ok (.ifCond .lt 17, 3) := by decide +kernel
theorem dX3_known_4 : decode cX3_known 4 = .ok (.iload_n 1, 1) := by decide +kernel
theorem dX3_known_5 : decode cX3_known 5 = .ok (.aload_n 0, 1) := by decide +kernel
theorem dX3_known_6 : decode cX3_known 6 = .ok (.getfield 10, 3) := by decide +kernel
theorem dX3_known_9 : decode cX3_known 9 = .ok (.getfield 90, 3) := by decide +kernel
theorem dX3_known_12 : decode cX3_known 12 = .ok (.getfield 94, 3) := by decide +kernel
theorem dX3_known_15 : decode cX3_known 15 = .ok (.if_icmp .lt 13, 3) := by decide +kernel
theorem dX3_known_18 : decode cX3_known 18 = .ok (.new 99, 3) := by decide +kernel
theorem dX3_known_21 : decode cX3_known 21 = .ok (.dup, 1) := by decide +kernel
theorem dX3_known_22 : decode cX3_known 22 = .ok (.ldc 101, 2) := by decide +kernel
theorem dX3_known_24 : decode cX3_known 24 = .ok (.invokespecial 103, 3) := by decide +kernel
theorem dX3_known_27 : decode cX3_known 27 = .ok (.athrow, 1) := by decide +kernel
theorem dX3_known_28 : decode cX3_known 28 = .ok (.aload_n 0, 1) := by decide +kernel
theorem dX3_known_29 : decode cX3_known 29 = .ok (.getfield 10, 3) := by decide +kernel
theorem dX3_known_32 : decode cX3_known 32 = .ok (.getfield 90, 3) := by decide +kernel
theorem dX3_known_35 : decode cX3_known 35 = .ok (.getfield 104, 3) := by decide +kernel
theorem dX3_known_38 : decode cX3_known 38 = .ok (.iload_n 1, 1) := by decide +kernel
theorem dX3_known_39 : decode cX3_known 39 = .ok (.iaload, 1) := by decide +kernel
theorem dX3_known_40 : decode cX3_known 40 = .ok (.ireturn, 1) := by decide +kernel
theorem dX3_knownPictures_0 : decode cX3_knownPictures 0 = .ok (.aload_n 0, 1) := by decide +kernel
theorem dX3_knownPictures_1 : decode cX3_knownPictures 1 = .ok (.getfield 10, 3) := by decide +kernel
theorem dX3_knownPictures_4 : decode cX3_knownPictures 4 = .ok (.getfield 90, 3) := by decide +kernel
theorem dX3_knownPictures_7 : decode cX3_knownPictures 7 = .ok (.getfield 94, 3) := by decide +kernel
theorem dX3_knownPictures_10 : decode cX3_knownPictures 10 = .ok (.ireturn, 1) := by decide +kernel
theorem dX3_sent_0 : decode cX3_sent 0 = .ok (.iload_n 1, 1) := by decide +kernel
theorem dX3_sent_1 : decode cX3_sent 1 = .ok (.ifCond .lt 8, 3) := by decide +kernel
theorem dX3_sent_4 : decode cX3_sent 4 = .ok (.iload_n 1, 1) := by decide +kernel
theorem dX3_sent_5 : decode cX3_sent 5 = .ok (.iconst 4, 1) := by decide +kernel
theorem dX3_sent_6 : decode cX3_sent 6 = .ok (.if_icmp .lt 13, 3) := by decide +kernel
theorem dX3_sent_9 : decode cX3_sent 9 = .ok (.new 23, 3) := by decide +kernel
theorem dX3_sent_12 : decode cX3_sent 12 = .ok (.dup, 1) := by decide +kernel
theorem dX3_sent_13 : decode cX3_sent 13 = .ok (.ldc 107, 2) := by decide +kernel
theorem dX3_sent_15 : decode cX3_sent 15 = .ok (.invokespecial 27, 3) := by decide +kernel
theorem dX3_sent_18 : decode cX3_sent 18 = .ok (.athrow, 1) := by decide +kernel
theorem dX3_sent_19 : decode cX3_sent 19 = .ok (.aload_n 0, 1) := by decide +kernel
theorem dX3_sent_20 : decode cX3_sent 20 = .ok (.getfield 10, 3) := by decide +kernel
theorem dX3_sent_23 : decode cX3_sent 23 = .ok (.getfield 109, 3) := by decide +kernel
theorem dX3_sent_26 : decode cX3_sent 26 = .ok (.iload_n 1, 1) := by decide +kernel
theorem dX3_sent_27 : decode cX3_sent 27 = .ok (.iaload, 1) := by decide +kernel
theorem dX3_sent_28 : decode cX3_sent 28 = .ok (.ireturn, 1) := by decide +kernel
theorem dX3_used_0 : decode cX3_used 0 = .ok (.aload_n 0, 1) := by decide +kernel
theorem dX3_used_1 : decode cX3_used 1 = .ok (.getfield 10, 3) := by decide +kernel
theorem dX3_used_4 : decode cX3_used 4 = .ok (.getfield 112, 3) := by decide +kernel
theorem dX3_used_7 : decode cX3_used 7 = .ok (.ireturn, 1) := by decide +kernel
theorem dX3_anew_0 : decode cX3_anew 0 = .ok (.iconst 0, 1) := by decide +kernel
theorem dX3_anew_1 : decode cX3_anew 1 = .ok (.istore_n 1, 1) := by decide +kernel
theorem dX3_anew_2 : decode cX3_anew 2 = .ok (.iconst 0, 1) := by decide +kernel
theorem dX3_anew_3 : decode cX3_anew 3 = .ok (.istore_n 2, 1) := by decide +kernel
theorem dX3_anew_4 : decode cX3_anew 4 = .ok (.iload_n 2, 1) := by decide +kernel
theorem dX3_anew_5 : decode cX3_anew 5 = .ok (.bipush 48, 2) := by decide +kernel
theorem dX3_anew_7 : decode cX3_anew 7 = .ok (.if_icmp .ge 24, 3) := by decide +kernel
theorem dX3_anew_10 : decode cX3_anew 10 = .ok (.iload_n 1, 1) := by decide +kernel
theorem dX3_anew_11 : decode cX3_anew 11 = .ok (.aload_n 0, 1) := by decide +kernel
theorem dX3_anew_12 : decode cX3_anew 12 = .ok (.getfield 10, 3) := by decide +kernel
theorem dX3_anew_15 : decode cX3_anew 15 = .ok (.getfield 70, 3) := by decide +kernel
theorem dX3_anew_18 : decode cX3_anew 18 = .ok (.iload_n 2, 1) := by decide +kernel
theorem dX3_anew_19 : decode cX3_anew 19 = .ok (.iaload, 1) := by decide +kernel
theorem dX3_anew_20 : decode cX3_anew 20 = .ok (.invokestatic 115, 3) := by decide +kernel
theorem dX3_anew_23 : decode cX3_anew 23 = .ok (.iadd, 1) := by decide +kernel
theorem dX3_anew_24 : decode cX3_anew 24 = .ok (.istore_n 1, 1) := by decide +kernel
theorem dX3_anew_25 : decode cX3_anew 25 = .ok (.iinc 2 1, 3) := by decide +kernel
theorem dX3_anew_28 : decode cX3_anew 28 = .ok (.goto (-24), 3) := by decide +kernel
theorem dX3_anew_31 : decode cX3_anew 31 = .ok (.iload_n 1, 1) := by decide +kernel
theorem dX3_anew_32 : decode cX3_anew 32 = .ok (.ireturn, 1) := by decide +kernel
theorem dX3_stepsToGo_0 : decode cX3_stepsToGo 0 = .ok (.iload_n 1, 1) := by decide +kernel
theorem dX3_stepsToGo_1 : decode cX3_stepsToGo 1 = .ok (.invokestatic 59, 3) := by decide +kernel
theorem dX3_stepsToGo_4 : decode cX3_stepsToGo 4 = .ok (.aload_n 0, 1) := by decide +kernel
theorem dX3_stepsToGo_5 : decode cX3_stepsToGo 5 = .ok (.getfield 16, 3) := by decide +kernel
theorem dX3_stepsToGo_8 : decode cX3_stepsToGo 8 = .ok (.aload_n 0, 1) := by decide +kernel
theorem dX3_stepsToGo_9 : decode cX3_stepsToGo 9 = .ok (.getfield 10, 3) := by decide +kernel
theorem dX3_stepsToGo_12 : decode cX3_stepsToGo 12 = .ok (.invokevirtual 118, 3) := by decide +kernel
theorem dX3_stepsToGo_15 : decode cX3_stepsToGo 15 = .ok (.iconst 0, 1) := by decide +kernel
theorem dX3_stepsToGo_16 : decode cX3_stepsToGo 16 = .ok (.istore_n 2, 1) := by decide +kernel
theorem dX3_stepsToGo_17 : decode cX3_stepsToGo 17 = .ok (.iload_n 2, 1) := by decide +kernel
theorem dX3_stepsToGo_18 : decode cX3_stepsToGo 18 = .ok (.bipush 100, 2) := by decide +kernel
theorem dX3_stepsToGo_20 : decode cX3_stepsToGo 20 = .ok (.if_icmp .ge 48, 3) := by decide +kernel
theorem dX3_stepsToGo_23 : decode cX3_stepsToGo 23 = .ok (.aload_n 0, 1) := by decide +kernel
theorem dX3_stepsToGo_24 : decode cX3_stepsToGo 24 = .ok (.getfield 16, 3) := by decide +kernel
theorem dX3_stepsToGo_27 : decode cX3_stepsToGo 27 = .ok (.invokevirtual 122, 3) := by decide +kernel
theorem dX3_stepsToGo_30 : decode cX3_stepsToGo 30 = .ok (.ifCond .ne 38, 3) := by decide +kernel
theorem dX3_stepsToGo_33 : decode cX3_stepsToGo 33 = .ok (.aload_n 0, 1) := by decide +kernel
theorem dX3_stepsToGo_34 : decode cX3_stepsToGo 34 = .ok (.getfield 16, 3) := by decide +kernel
theorem dX3_stepsToGo_37 : decode cX3_stepsToGo 37 = .ok (.invokevirtual 126, 3) := by decide +kernel
theorem dX3_stepsToGo_40 : decode cX3_stepsToGo 40 = .ok (.istore_n 3, 1) := by decide +kernel
theorem dX3_stepsToGo_41 : decode cX3_stepsToGo 41 = .ok (.aload_n 0, 1) := by decide +kernel
theorem dX3_stepsToGo_42 : decode cX3_stepsToGo 42 = .ok (.getfield 16, 3) := by decide +kernel
theorem dX3_stepsToGo_45 : decode cX3_stepsToGo 45 = .ok (.iload_n 1, 1) := by decide +kernel
theorem dX3_stepsToGo_46 : decode cX3_stepsToGo 46 = .ok (.invokevirtual 63, 3) := by decide +kernel
theorem dX3_stepsToGo_49 : decode cX3_stepsToGo 49 = .ok (.istore 4, 2) := by decide +kernel
theorem dX3_stepsToGo_51 : decode cX3_stepsToGo 51 = .ok (.iload 4, 2) := by decide +kernel
theorem dX3_stepsToGo_53 : decode cX3_stepsToGo 53 = .ok (.ifCond .ne 9, 3) := by decide +kernel
theorem dX3_stepsToGo_56 : decode cX3_stepsToGo 56 = .ok (.iload_n 3, 1) := by decide +kernel
theorem dX3_stepsToGo_57 : decode cX3_stepsToGo 57 = .ok (.ifCond .ne 5, 3) := by decide +kernel
theorem dX3_stepsToGo_60 : decode cX3_stepsToGo 60 = .ok (.iconst (-1), 1) := by decide +kernel
theorem dX3_stepsToGo_61 : decode cX3_stepsToGo 61 = .ok (.ireturn, 1) := by decide +kernel
theorem dX3_stepsToGo_62 : decode cX3_stepsToGo 62 = .ok (.iinc 2 1, 3) := by decide +kernel
theorem dX3_stepsToGo_65 : decode cX3_stepsToGo 65 = .ok (.goto (-48), 3) := by decide +kernel
theorem dX3_stepsToGo_68 : decode cX3_stepsToGo 68 = .ok (.aload_n 0, 1) := by decide +kernel
theorem dX3_stepsToGo_69 : decode cX3_stepsToGo 69 = .ok (.getfield 16, 3) := by decide +kernel
theorem dX3_stepsToGo_72 : decode cX3_stepsToGo 72 = .ok (.invokevirtual 122, 3) := by decide +kernel
theorem dX3_stepsToGo_75 : decode cX3_stepsToGo 75 = .ok (.ifCond .eq 7, 3) := by decide +kernel
theorem dX3_stepsToGo_78 : decode cX3_stepsToGo 78 = .ok (.iload_n 2, 1) := by decide +kernel
theorem dX3_stepsToGo_79 : decode cX3_stepsToGo 79 = .ok (.goto 4, 3) := by decide +kernel
theorem dX3_stepsToGo_82 : decode cX3_stepsToGo 82 = .ok (.iconst (-1), 1) := by decide +kernel
theorem dX3_stepsToGo_83 : decode cX3_stepsToGo 83 = .ok (.ireturn, 1) := by decide +kernel
theorem dX3_checkTile_0 : decode cX3_checkTile 0 = .ok (.iload_n 0, 1) := by decide +kernel
theorem dX3_checkTile_1 : decode cX3_checkTile 1 = .ok (.ifCond .lt 19, 3) := by decide +kernel
theorem dX3_checkTile_4 : decode cX3_checkTile 4 = .ok (.iload_n 0, 1) := by decide +kernel
theorem dX3_checkTile_5 : decode cX3_checkTile 5 = .ok (.bipush 8, 2) := by decide +kernel
theorem dX3_checkTile_7 : decode cX3_checkTile 7 = .ok (.if_icmp .ge 13, 3) := by decide +kernel
theorem dX3_checkTile_10 : decode cX3_checkTile 10 = .ok (.iload_n 1, 1) := by decide +kernel
theorem dX3_checkTile_11 : decode cX3_checkTile 11 = .ok (.ifCond .lt 9, 3) := by decide +kernel
theorem dX3_checkTile_14 : decode cX3_checkTile 14 = .ok (.iload_n 1, 1) := by decide +kernel
theorem dX3_checkTile_15 : decode cX3_checkTile 15 = .ok (.bipush 6, 2) := by decide +kernel
theorem dX3_checkTile_17 : decode cX3_checkTile 17 = .ok (.if_icmp .lt 13, 3) := by decide +kernel
theorem dX3_checkTile_20 : decode cX3_checkTile 20 = .ok (.new 99, 3) := by decide +kernel
theorem dX3_checkTile_23 : decode cX3_checkTile 23 = .ok (.dup, 1) := by decide +kernel
theorem dX3_checkTile_24 : decode cX3_checkTile 24 = .ok (.ldc 129, 2) := by decide +kernel
theorem dX3_checkTile_26 : decode cX3_checkTile 26 = .ok (.invokespecial 103, 3) := by decide +kernel
theorem dX3_checkTile_29 : decode cX3_checkTile 29 = .ok (.athrow, 1) := by decide +kernel
theorem dX3_checkTile_30 : decode cX3_checkTile 30 = .ok (.return_, 1) := by decide +kernel
theorem dX3_checkBlock_0 : decode cX3_checkBlock 0 = .ok (.iload_n 0, 1) := by decide +kernel
theorem dX3_checkBlock_1 : decode cX3_checkBlock 1 = .ok (.iload_n 1, 1) := by decide +kernel
theorem dX3_checkBlock_2 : decode cX3_checkBlock 2 = .ok (.invokestatic 48, 3) := by decide +kernel
theorem dX3_checkBlock_5 : decode cX3_checkBlock 5 = .ok (.iload_n 2, 1) := by decide +kernel
theorem dX3_checkBlock_6 : decode cX3_checkBlock 6 = .ok (.iconst 1, 1) := by decide +kernel
theorem dX3_checkBlock_7 : decode cX3_checkBlock 7 = .ok (.if_icmp .lt 24, 3) := by decide +kernel
theorem dX3_checkBlock_10 : decode cX3_checkBlock 10 = .ok (.iload_n 2, 1) := by decide +kernel
theorem dX3_checkBlock_11 : decode cX3_checkBlock 11 = .ok (.bipush 8, 2) := by decide +kernel
theorem dX3_checkBlock_13 : decode cX3_checkBlock 13 = .ok (.iload_n 0, 1) := by decide +kernel
theorem dX3_checkBlock_14 : decode cX3_checkBlock 14 = .ok (.isub, 1) := by decide +kernel
theorem dX3_checkBlock_15 : decode cX3_checkBlock 15 = .ok (.if_icmp .gt 16, 3) := by decide +kernel
theorem dX3_checkBlock_18 : decode cX3_checkBlock 18 = .ok (.iload_n 3, 1) := by decide +kernel
theorem dX3_checkBlock_19 : decode cX3_checkBlock 19 = .ok (.iconst 1, 1) := by decide +kernel
theorem dX3_checkBlock_20 : decode cX3_checkBlock 20 = .ok (.if_icmp .lt 11, 3) := by decide +kernel
theorem dX3_checkBlock_23 : decode cX3_checkBlock 23 = .ok (.iload_n 3, 1) := by decide +kernel
theorem dX3_checkBlock_24 : decode cX3_checkBlock 24 = .ok (.bipush 6, 2) := by decide +kernel
theorem dX3_checkBlock_26 : decode cX3_checkBlock 26 = .ok (.iload_n 1, 1) := by decide +kernel
theorem dX3_checkBlock_27 : decode cX3_checkBlock 27 = .ok (.isub, 1) := by decide +kernel
theorem dX3_checkBlock_28 : decode cX3_checkBlock 28 = .ok (.if_icmp .le 13, 3) := by decide +kernel
theorem dX3_checkBlock_31 : decode cX3_checkBlock 31 = .ok (.new 99, 3) := by decide +kernel
theorem dX3_checkBlock_34 : decode cX3_checkBlock 34 = .ok (.dup, 1) := by decide +kernel
theorem dX3_checkBlock_35 : decode cX3_checkBlock 35 = .ok (.ldc 131, 2) := by decide +kernel
theorem dX3_checkBlock_37 : decode cX3_checkBlock 37 = .ok (.invokespecial 103, 3) := by decide +kernel
theorem dX3_checkBlock_40 : decode cX3_checkBlock 40 = .ok (.athrow, 1) := by decide +kernel
theorem dX3_checkBlock_41 : decode cX3_checkBlock 41 = .ok (.return_, 1) := by decide +kernel
theorem dX3_checkBudget_0 : decode cX3_checkBudget 0 = .ok (.iload_n 0, 1) := by decide +kernel
theorem dX3_checkBudget_1 : decode cX3_checkBudget 1 = .ok (.ifCond .lt 10, 3) := by decide +kernel
theorem dX3_checkBudget_4 : decode cX3_checkBudget 4 = .ok (.iload_n 0, 1) := by decide +kernel
theorem dX3_checkBudget_5 : decode cX3_checkBudget 5 = .ok (.sipush 300, 3) := by decide +kernel
theorem dX3_checkBudget_8 : decode cX3_checkBudget 8 = .ok (.if_icmp .le 13, 3) := by decide +kernel
theorem dX3_checkBudget_11 : decode cX3_checkBudget 11 = .ok (.new 23, 3) := by decide +kernel
theorem dX3_checkBudget_14 : decode cX3_checkBudget 14 = .ok (.dup, 1) := by decide +kernel
theorem dX3_checkBudget_15 : decode cX3_checkBudget 15 = .ok (.ldc 133, 2) := by decide +kernel
theorem dX3_checkBudget_17 : decode cX3_checkBudget 17 = .ok (.invokespecial 27, 3) := by decide +kernel
theorem dX3_checkBudget_20 : decode cX3_checkBudget 20 = .ok (.athrow, 1) := by decide +kernel
theorem dX3_checkBudget_21 : decode cX3_checkBudget 21 = .ok (.return_, 1) := by decide +kernel
theorem dX3_tileAt_0 : decode cX3_tileAt 0 = .ok (.bipush 8, 2) := by decide +kernel
theorem dX3_tileAt_2 : decode cX3_tileAt 2 = .ok (.iload_n 1, 1) := by decide +kernel
theorem dX3_tileAt_3 : decode cX3_tileAt 3 = .ok (.imul, 1) := by decide +kernel
theorem dX3_tileAt_4 : decode cX3_tileAt 4 = .ok (.iload_n 0, 1) := by decide +kernel
theorem dX3_tileAt_5 : decode cX3_tileAt 5 = .ok (.iadd, 1) := by decide +kernel
theorem dX3_tileAt_6 : decode cX3_tileAt 6 = .ok (.ireturn, 1) := by decide +kernel
theorem dX3_wholeCost_0 : decode cX3_wholeCost 0 = .ok (.iload_n 0, 1) := by decide +kernel
theorem dX3_wholeCost_1 : decode cX3_wholeCost 1 = .ok (.bipush 64, 2) := by decide +kernel
theorem dX3_wholeCost_3 : decode cX3_wholeCost 3 = .ok (.if_icmp .ge 7, 3) := by decide +kernel
theorem dX3_wholeCost_6 : decode cX3_wholeCost 6 = .ok (.iconst 2, 1) := by decide +kernel
theorem dX3_wholeCost_7 : decode cX3_wholeCost 7 = .ok (.goto 5, 3) := by decide +kernel
theorem dX3_wholeCost_10 : decode cX3_wholeCost 10 = .ok (.bipush 6, 2) := by decide +kernel
theorem dX3_wholeCost_12 : decode cX3_wholeCost 12 = .ok (.ireturn, 1) := by decide +kernel
theorem dJ6_bitCount_0f7a4_0 : decode cJ6_bitCount_0f7a4 0 = .ok (.iload_n 0, 1) := by decide +kernel
theorem dJ6_bitCount_0f7a4_1 : decode cJ6_bitCount_0f7a4 1 = .ok (.iload_n 0, 1) := by decide +kernel
theorem dJ6_bitCount_0f7a4_2 : decode cJ6_bitCount_0f7a4 2 = .ok (.iconst 1, 1) := by decide +kernel
theorem dJ6_bitCount_0f7a4_3 : decode cJ6_bitCount_0f7a4 3 = .ok (.iushr, 1) := by decide +kernel
theorem dJ6_bitCount_0f7a4_4 : decode cJ6_bitCount_0f7a4 4 = .ok (.ldc_w 265, 3) := by decide +kernel
theorem dJ6_bitCount_0f7a4_7 : decode cJ6_bitCount_0f7a4 7 = .ok (.iand, 1) := by decide +kernel
theorem dJ6_bitCount_0f7a4_8 : decode cJ6_bitCount_0f7a4 8 = .ok (.isub, 1) := by decide +kernel
theorem dJ6_bitCount_0f7a4_9 : decode cJ6_bitCount_0f7a4 9 = .ok (.istore_n 0, 1) := by decide +kernel
theorem dJ6_bitCount_0f7a4_10 : decode cJ6_bitCount_0f7a4 10 = .ok (.iload_n 0, 1) := by decide +kernel
theorem dJ6_bitCount_0f7a4_11 : decode cJ6_bitCount_0f7a4 11 = .ok (.ldc_w 266, 3) := by decide +kernel
theorem dJ6_bitCount_0f7a4_14 : decode cJ6_bitCount_0f7a4 14 = .ok (.iand, 1) := by decide +kernel
theorem dJ6_bitCount_0f7a4_15 : decode cJ6_bitCount_0f7a4 15 = .ok (.iload_n 0, 1) := by decide +kernel
theorem dJ6_bitCount_0f7a4_16 : decode cJ6_bitCount_0f7a4 16 = .ok (.iconst 2, 1) := by decide +kernel
theorem dJ6_bitCount_0f7a4_17 : decode cJ6_bitCount_0f7a4 17 = .ok (.iushr, 1) := by decide +kernel
theorem dJ6_bitCount_0f7a4_18 : decode cJ6_bitCount_0f7a4 18 = .ok (.ldc_w 266, 3) := by decide +kernel
theorem dJ6_bitCount_0f7a4_21 : decode cJ6_bitCount_0f7a4 21 = .ok (.iand, 1) := by decide +kernel
theorem dJ6_bitCount_0f7a4_22 : decode cJ6_bitCount_0f7a4 22 = .ok (.iadd, 1) := by decide +kernel
theorem dJ6_bitCount_0f7a4_23 : decode cJ6_bitCount_0f7a4 23 = .ok (.istore_n 0, 1) := by decide +kernel
theorem dJ6_bitCount_0f7a4_24 : decode cJ6_bitCount_0f7a4 24 = .ok (.iload_n 0, 1) := by decide +kernel
theorem dJ6_bitCount_0f7a4_25 : decode cJ6_bitCount_0f7a4 25 = .ok (.iload_n 0, 1) := by decide +kernel
theorem dJ6_bitCount_0f7a4_26 : decode cJ6_bitCount_0f7a4 26 = .ok (.iconst 4, 1) := by decide +kernel
theorem dJ6_bitCount_0f7a4_27 : decode cJ6_bitCount_0f7a4 27 = .ok (.iushr, 1) := by decide +kernel
theorem dJ6_bitCount_0f7a4_28 : decode cJ6_bitCount_0f7a4 28 = .ok (.iadd, 1) := by decide +kernel
theorem dJ6_bitCount_0f7a4_29 : decode cJ6_bitCount_0f7a4 29 = .ok (.ldc_w 267, 3) := by decide +kernel
theorem dJ6_bitCount_0f7a4_32 : decode cJ6_bitCount_0f7a4 32 = .ok (.iand, 1) := by decide +kernel
theorem dJ6_bitCount_0f7a4_33 : decode cJ6_bitCount_0f7a4 33 = .ok (.istore_n 0, 1) := by decide +kernel
theorem dJ6_bitCount_0f7a4_34 : decode cJ6_bitCount_0f7a4 34 = .ok (.iload_n 0, 1) := by decide +kernel
theorem dJ6_bitCount_0f7a4_35 : decode cJ6_bitCount_0f7a4 35 = .ok (.iload_n 0, 1) := by decide +kernel
theorem dJ6_bitCount_0f7a4_36 : decode cJ6_bitCount_0f7a4 36 = .ok (.bipush 8, 2) := by decide +kernel
theorem dJ6_bitCount_0f7a4_38 : decode cJ6_bitCount_0f7a4 38 = .ok (.iushr, 1) := by decide +kernel
theorem dJ6_bitCount_0f7a4_39 : decode cJ6_bitCount_0f7a4 39 = .ok (.iadd, 1) := by decide +kernel
theorem dJ6_bitCount_0f7a4_40 : decode cJ6_bitCount_0f7a4 40 = .ok (.istore_n 0, 1) := by decide +kernel
theorem dJ6_bitCount_0f7a4_41 : decode cJ6_bitCount_0f7a4 41 = .ok (.iload_n 0, 1) := by decide +kernel
theorem dJ6_bitCount_0f7a4_42 : decode cJ6_bitCount_0f7a4 42 = .ok (.iload_n 0, 1) := by decide +kernel
theorem dJ6_bitCount_0f7a4_43 : decode cJ6_bitCount_0f7a4 43 = .ok (.bipush 16, 2) := by decide +kernel
theorem dJ6_bitCount_0f7a4_45 : decode cJ6_bitCount_0f7a4 45 = .ok (.iushr, 1) := by decide +kernel
theorem dJ6_bitCount_0f7a4_46 : decode cJ6_bitCount_0f7a4 46 = .ok (.iadd, 1) := by decide +kernel
theorem dJ6_bitCount_0f7a4_47 : decode cJ6_bitCount_0f7a4 47 = .ok (.istore_n 0, 1) := by decide +kernel
theorem dJ6_bitCount_0f7a4_48 : decode cJ6_bitCount_0f7a4 48 = .ok (.iload_n 0, 1) := by decide +kernel
theorem dJ6_bitCount_0f7a4_49 : decode cJ6_bitCount_0f7a4 49 = .ok (.bipush 63, 2) := by decide +kernel
theorem dJ6_bitCount_0f7a4_51 : decode cJ6_bitCount_0f7a4 51 = .ok (.iand, 1) := by decide +kernel
theorem dJ6_bitCount_0f7a4_52 : decode cJ6_bitCount_0f7a4 52 = .ok (.ireturn, 1) := by decide +kernel
theorem dJ13_bitCount_95d88_0 : decode cJ13_bitCount_95d88 0 = .ok (.lload_n 0, 1) := by decide +kernel
theorem dJ13_bitCount_95d88_1 : decode cJ13_bitCount_95d88 1 = .ok (.lload_n 0, 1) := by decide +kernel
theorem dJ13_bitCount_95d88_2 : decode cJ13_bitCount_95d88 2 = .ok (.iconst 1, 1) := by decide +kernel
theorem dJ13_bitCount_95d88_3 : decode cJ13_bitCount_95d88 3 = .ok (.lushr, 1) := by decide +kernel
theorem dJ13_bitCount_95d88_4 : decode cJ13_bitCount_95d88 4 = .ok (.ldc2_w 314, 3) := by decide +kernel
theorem dJ13_bitCount_95d88_7 : decode cJ13_bitCount_95d88 7 = .ok (.land, 1) := by decide +kernel
theorem dJ13_bitCount_95d88_8 : decode cJ13_bitCount_95d88 8 = .ok (.lsub, 1) := by decide +kernel
theorem dJ13_bitCount_95d88_9 : decode cJ13_bitCount_95d88 9 = .ok (.lstore_n 0, 1) := by decide +kernel
theorem dJ13_bitCount_95d88_10 : decode cJ13_bitCount_95d88 10 = .ok (.lload_n 0, 1) := by decide +kernel
theorem dJ13_bitCount_95d88_11 : decode cJ13_bitCount_95d88 11 = .ok (.ldc2_w 316, 3) := by decide +kernel
theorem dJ13_bitCount_95d88_14 : decode cJ13_bitCount_95d88 14 = .ok (.land, 1) := by decide +kernel
theorem dJ13_bitCount_95d88_15 : decode cJ13_bitCount_95d88 15 = .ok (.lload_n 0, 1) := by decide +kernel
theorem dJ13_bitCount_95d88_16 : decode cJ13_bitCount_95d88 16 = .ok (.iconst 2, 1) := by decide +kernel
theorem dJ13_bitCount_95d88_17 : decode cJ13_bitCount_95d88 17 = .ok (.lushr, 1) := by decide +kernel
theorem dJ13_bitCount_95d88_18 : decode cJ13_bitCount_95d88 18 = .ok (.ldc2_w 316, 3) := by decide +kernel
theorem dJ13_bitCount_95d88_21 : decode cJ13_bitCount_95d88 21 = .ok (.land, 1) := by decide +kernel
theorem dJ13_bitCount_95d88_22 : decode cJ13_bitCount_95d88 22 = .ok (.ladd, 1) := by decide +kernel
theorem dJ13_bitCount_95d88_23 : decode cJ13_bitCount_95d88 23 = .ok (.lstore_n 0, 1) := by decide +kernel
theorem dJ13_bitCount_95d88_24 : decode cJ13_bitCount_95d88 24 = .ok (.lload_n 0, 1) := by decide +kernel
theorem dJ13_bitCount_95d88_25 : decode cJ13_bitCount_95d88 25 = .ok (.lload_n 0, 1) := by decide +kernel
theorem dJ13_bitCount_95d88_26 : decode cJ13_bitCount_95d88 26 = .ok (.iconst 4, 1) := by decide +kernel
theorem dJ13_bitCount_95d88_27 : decode cJ13_bitCount_95d88 27 = .ok (.lushr, 1) := by decide +kernel
theorem dJ13_bitCount_95d88_28 : decode cJ13_bitCount_95d88 28 = .ok (.ladd, 1) := by decide +kernel
theorem dJ13_bitCount_95d88_29 : decode cJ13_bitCount_95d88 29 = .ok (.ldc2_w 318, 3) := by decide +kernel
theorem dJ13_bitCount_95d88_32 : decode cJ13_bitCount_95d88 32 = .ok (.land, 1) := by decide +kernel
theorem dJ13_bitCount_95d88_33 : decode cJ13_bitCount_95d88 33 = .ok (.lstore_n 0, 1) := by decide +kernel
theorem dJ13_bitCount_95d88_34 : decode cJ13_bitCount_95d88 34 = .ok (.lload_n 0, 1) := by decide +kernel
theorem dJ13_bitCount_95d88_35 : decode cJ13_bitCount_95d88 35 = .ok (.lload_n 0, 1) := by decide +kernel
theorem dJ13_bitCount_95d88_36 : decode cJ13_bitCount_95d88 36 = .ok (.bipush 8, 2) := by decide +kernel
theorem dJ13_bitCount_95d88_38 : decode cJ13_bitCount_95d88 38 = .ok (.lushr, 1) := by decide +kernel
theorem dJ13_bitCount_95d88_39 : decode cJ13_bitCount_95d88 39 = .ok (.ladd, 1) := by decide +kernel
theorem dJ13_bitCount_95d88_40 : decode cJ13_bitCount_95d88 40 = .ok (.lstore_n 0, 1) := by decide +kernel
theorem dJ13_bitCount_95d88_41 : decode cJ13_bitCount_95d88 41 = .ok (.lload_n 0, 1) := by decide +kernel
theorem dJ13_bitCount_95d88_42 : decode cJ13_bitCount_95d88 42 = .ok (.lload_n 0, 1) := by decide +kernel
theorem dJ13_bitCount_95d88_43 : decode cJ13_bitCount_95d88 43 = .ok (.bipush 16, 2) := by decide +kernel
theorem dJ13_bitCount_95d88_45 : decode cJ13_bitCount_95d88 45 = .ok (.lushr, 1) := by decide +kernel
theorem dJ13_bitCount_95d88_46 : decode cJ13_bitCount_95d88 46 = .ok (.ladd, 1) := by decide +kernel
theorem dJ13_bitCount_95d88_47 : decode cJ13_bitCount_95d88 47 = .ok (.lstore_n 0, 1) := by decide +kernel
theorem dJ13_bitCount_95d88_48 : decode cJ13_bitCount_95d88 48 = .ok (.lload_n 0, 1) := by decide +kernel
theorem dJ13_bitCount_95d88_49 : decode cJ13_bitCount_95d88 49 = .ok (.lload_n 0, 1) := by decide +kernel
theorem dJ13_bitCount_95d88_50 : decode cJ13_bitCount_95d88 50 = .ok (.bipush 32, 2) := by decide +kernel
theorem dJ13_bitCount_95d88_52 : decode cJ13_bitCount_95d88 52 = .ok (.lushr, 1) := by decide +kernel
theorem dJ13_bitCount_95d88_53 : decode cJ13_bitCount_95d88 53 = .ok (.ladd, 1) := by decide +kernel
theorem dJ13_bitCount_95d88_54 : decode cJ13_bitCount_95d88 54 = .ok (.lstore_n 0, 1) := by decide +kernel
theorem dJ13_bitCount_95d88_55 : decode cJ13_bitCount_95d88 55 = .ok (.lload_n 0, 1) := by decide +kernel
theorem dJ13_bitCount_95d88_56 : decode cJ13_bitCount_95d88 56 = .ok (.l2i, 1) := by decide +kernel
theorem dJ13_bitCount_95d88_57 : decode cJ13_bitCount_95d88 57 = .ok (.bipush 127, 2) := by decide +kernel
theorem dJ13_bitCount_95d88_59 : decode cJ13_bitCount_95d88 59 = .ok (.iand, 1) := by decide +kernel
theorem dJ13_bitCount_95d88_60 : decode cJ13_bitCount_95d88 60 = .ok (.ireturn, 1) := by decide +kernel
theorem dJ9_abs_0f7a4_0 : decode cJ9_abs_0f7a4 0 = .ok (.iload_n 0, 1) := by decide +kernel
theorem dJ9_abs_0f7a4_1 : decode cJ9_abs_0f7a4 1 = .ok (.ifCond .ge 8, 3) := by decide +kernel
theorem dJ9_abs_0f7a4_4 : decode cJ9_abs_0f7a4 4 = .ok (.iload_n 0, 1) := by decide +kernel
theorem dJ9_abs_0f7a4_5 : decode cJ9_abs_0f7a4 5 = .ok (.ineg, 1) := by decide +kernel
theorem dJ9_abs_0f7a4_6 : decode cJ9_abs_0f7a4 6 = .ok (.goto 4, 3) := by decide +kernel
theorem dJ9_abs_0f7a4_9 : decode cJ9_abs_0f7a4 9 = .ok (.iload_n 0, 1) := by decide +kernel
theorem dJ9_abs_0f7a4_10 : decode cJ9_abs_0f7a4 10 = .ok (.ireturn, 1) := by decide +kernel
end
section
/-! the ground that all contracts of this claim stand on: one list of words for all methods, one form of contract, one row an instruction -/
abbrev classes : List vw_C := [(RX0, TX0, 6), (RX1, TX1, 2), (RX2, TX2, 14), (RX3, TX3, 2)]
abbrev GG : Type := va_G × (Nat → ClassId)
def fz_tys (g : GG) : List (ClassId × FieldType) := [(g.2 0, .int), (g.2 0, .int), (g.2 0, .int), (g.2 3, .object "FarScreen$BlockMove")]
def fz_nest (w : Cond) : Bool := match w with
  | .fieldLinkNest .. => true
  | .methodLinkNest .. => true
  | .castable .. => true
  | .declares _ => true
  | .arrayOver (.object _) => true
  | _ => false
def fz_keep (w : Cond) : Bool := goodWord w || fz_nest w
def fz_M (w : Cond) : Prop := w ∈ lw_tbl ∧ fz_keep w = true
def fz_E (g : GG) (U : State) : Prop := va_K g.1 classes (fz_tys g) U ∧ ∀ w, fz_M w → w.before #[] U = true
theorem fz_warm {w : Cond} (hk : fz_keep w = true) {s U : State} {a a' : Array Value} (hW : s.WarmedH U.vm) (h : w.before a s = true) : w.before a' U = true := by
  unfold fz_keep at hk
  rw [Bool.or_eq_true] at hk
  rcases hk with hk | hk
  · exact word_at hW (good_of_word hk) h
  · unfold fz_nest at hk
    split at hk
    · exact va_Nw.use rfl (va_Nw.warmF hW (va_Nw.of rfl h))
    · exact va_Nw.use rfl (va_Nw.warmM hW (va_Nw.of rfl h))
    · exact va_Nw.use rfl (va_Nw.warmC hW (va_Nw.of rfl h))
    · exact va_Nw.use rfl (va_Nw.warmD hW (va_Nw.of rfl h))
    · exact va_AO.use (va_AO.moved hW.alike (va_AO.of h))
    · cases hk
theorem fz_E.use {g : GG} {U : State} (h : fz_E g U) {w : Cond} (hm : fz_M w) (a : Array Value) : w.before a U = true := fz_warm hm.2 (State.WarmedH.refl U) (h.2 w hm)
theorem fz_E.warm {g : GG} {s U : State} (hW : s.WarmedH U.vm) (h : fz_E g s) : fz_E g U := ⟨va_K.moved hW.alike h.1, fun w hm => fz_warm hm.2 hW (h.2 w hm)⟩
theorem fz_E.call {g : GG} {U : State} {f : JFrame} {mk : MethodId} {a : Array Value} (h : fz_E g U) : fz_E g (U.calling f mk a) := ⟨va_K.moved (u := U) (U := U.calling f mk a) (Vm.Alike.refl U.vm) h.1, fun w hm => fz_warm (U := U.calling f mk a) hm.2 (State.WarmedH.refl U) (h.2 w hm)⟩
/-- what a body stands on -/
def fz_X (p : Program) (s : State) (m : MethodId) (meth : Method) (c : Code) (own : String) (cc : ByteArray) (n : Nat) (ret : Option FieldType) (g : GG) (A : Nat → Prop) : Prop :=
  p.tables.exec = Jvm.exec ∧ c.code = cc ∧ meth.sig.returnType = ret ∧ c.maxLocals = n ∧ s.vm.findClass own = some m.cls ∧ meth.locks = false ∧ fz_E g s ∧ ∀ q : Nat, s.heap.size ≤ q → A q
def fz_W (g : GG) (A : Nat → Prop) (s : State) (ws : va_W) (H : Heap) (locs : List Loc) : Prop := va_P g.1 classes ws H ∧ va_D A ws ∧ va_S A s.heap H locs
/-- a contract: the world W0 becomes the world W1, the answer is v -/
def fz_P (g : GG) (as : List Value) (W0 : va_W) (sz : Nat) : Array Value → State → Prop := va_Pc as (fun U => U.heap.size = sz ∧ va_P g.1 classes W0 U.heap ∧ fz_E g U ∧ va_D (fun _ => True) W0)
def fz_Q (g : GG) (W1 : va_W) (v : Option Value) (A : Nat → Prop) : Array Value → State → Outcome → State → Prop := fun _ st oc t => (oc = .returned v ∧ va_P g.1 classes W1 t.heap ∧ va_D A W1) ∧ va_F A st t
abbrev fz_R (rf rc rs rl : Nat) : Room := { frames := rf, cells := rc, slots := rs, locals := rl }
def fz_C (l : Launch) (g : GG) (y : MethodName) (b : ByteArray) (n : Nat) (ret : Option FieldType) (rf rl : Nat) (as : List Value) (W0 W1 : va_W) (v : Option Value) : Prop :=
  ∀ sz : Nat, Met l y [.code y b n ret] (fz_R rf 0 0 rl) (fz_P g as W0 sz) (fz_Q g W1 v (va_A W0 sz)) 0 0 (va_A W0 sz)
theorem fz_P.blind {g : GG} {as : List Value} {W0 : va_W} {sz : Nat} : FrameBlind (fz_P g as W0 sz) := fun a U f mk q => by
  obtain ⟨q0, q1, qP, qE, qD⟩ := q
  exact ⟨q0, q1, qP, fz_E.call qE, qD⟩
theorem fz_C.of {l : Launch} {g : GG} {y : MethodName} {b : ByteArray} {n : Nat} {ret : Option FieldType} {rf rl : Nat} {as : List Value} {W0 W1 : va_W} {v : Option Value} (hy : plainName y.cls = true) (hn : (lg_sl as).length ≤ n)
    (body : ∀ (p : Program) (e : Env) (s : State) (m : MethodId) (args : Array Value) (below : List Frame) (meth : Method) (c : Code) (A : Nat → Prop) (ls : Array Slot), fz_X p s m meth c y.cls b n ret g A → fz_W g A s W0 s.heap [] → lv_has ls n (lv_args 0 as) →
      W p l e (fz_R rf 0 0 rl) s m args below meth c s.heap [] 0 0 (MQ below (fz_Q g W1 v A) args s 0 0 A) (F0 m 0 ls [])) : fz_C l g y b n ret rf rl as W0 W1 v := by
  intro sz
  refine Met.ofW (cc := b) (maxL := n) (ret := ret) hy rfl ?_
  intro p e s m args below meth c s₁ B hml hv
  obtain ⟨rfl, hsz, hP, hE, hD0⟩ := hv
  subst hsz
  have hD : va_D (va_A W0 s.heap.size) W0 := hD0.self (sz := s.heap.size)
  have hl := lv_entry as (n := n) hn
  rw [lg_entry_eq]
  exact body p e s m as.toArray below meth c _ _ ⟨B.exec, B.bytes, B.returns, hml, findClass_of_methodNamed B.named, B.notSynchronized, hE, fun q h => Or.inr h⟩ ⟨hP, hD, va_S.rf⟩ hl
/-- weaker before, stronger behind -/
theorem fz_cons {l : Launch} {y : MethodName} {ws : List Cond} {rm : Room} {Pc Pc' : Array Value → State → Prop} {Qc Qc' : Array Value → State → Outcome → State → Prop} {mc ms : Nat} {free free' : Addr → Prop} (h : Met l y ws rm Pc Qc mc ms free)
    (hP : ∀ a s, Pc' a s → Pc a s) (hQ : ∀ a s o t, Pc' a s → Qc a s o t → Qc' a s o t) (hf : ∀ q, free q → free' q) : Met l y ws rm Pc' Qc' mc ms free' := by
  intro p e ha hc hk s m args below hfr happ hp hK
  obtain ⟨k, o, h1, h2, h3, h4, L, h5, h6⟩ := h p e ha hc hk s m args below hfr happ (hP _ _ hp) hK
  exact ⟨k, o, h1, h2, h3, hQ _ _ _ _ hp h4, L, h5, fun q hq => hf _ (h6 q hq)⟩
theorem fz_A.sub {ws wc : va_W} {sz : Nat} (isC : List Nat) (hC : isC.map (fun i => ws[i]?) = wc.map some) : ∀ q, va_A wc sz q → va_A ws sz q := by
  intro q h
  rcases h with ⟨k, e, h⟩ | h
  · have h1 : (isC.map (fun i => ws[i]?))[k]? = some (some (q, e)) := by rw [hC, List.getElem?_map, h]; rfl
    rw [List.getElem?_map] at h1
    cases hi : isC[k]? with
    | none => rw [hi] at h1; cases h1
    | some i => rw [hi] at h1; exact Or.inl ⟨i, e, Option.some.inj h1⟩
  · exact Or.inr h
theorem fz_P.pick {D : va_G} {cl : List vw_C} {ws wc : va_W} {H : Heap} (h : va_P D cl ws H) (isC : List Nat) (hC : isC.map (fun i => ws[i]?) = wc.map some) : va_P D cl wc H := by
  intro k q hq
  have h1 : (isC.map (fun i => ws[i]?))[k]? = some (some q) := by rw [hC, List.getElem?_map, hq]; rfl
  rw [List.getElem?_map] at h1
  cases hi : isC[k]? with
  | none => rw [hi] at h1; cases h1
  | some i => rw [hi] at h1; exact h i q (Option.some.inj h1)
/-- the frame rule, of a contract: the rest of a larger world is as it was -/
theorem fz_C.frame {l : Launch} {g : GG} {y : MethodName} {b : ByteArray} {n : Nat} {ret : Option FieldType} {rf rl : Nat} {as : List Value} {wc w1 : va_W} {v : Option Value} (h : fz_C l g y b n ret rf rl as wc w1 v) {ws wr ws1 : va_W} (isC isR isX : List Nat)
    (hC : isC.map (fun i => ws[i]?) = wc.map some) (hc : va_nd isC = true) (hR : isR.map (fun i => ws[i]?) = wr.map some) (hn : va_nd isR = true) (hdis : ∀ i ∈ isR, i ∉ isC) (hX : isX.map (fun i => (wr ++ w1)[i]?) = ws1.map some) (hx : va_nd isX = true) : fz_C l g y b n ret rf rl as ws ws1 v := by
  intro sz
  refine fz_cons (h sz) ?_ ?_ (fz_A.sub isC hC)
  · intro a s hp
    obtain ⟨h1, h2, h3, h4, h5⟩ := hp
    exact ⟨h1, h2, fz_P.pick h3 isC hC, h4, h5.sub isC hc hC⟩
  · intro a s o t hp hq
    obtain ⟨h1, h2, h3, h4, h5⟩ := hp
    obtain ⟨⟨q1, q2, q3⟩, q4, q5⟩ := hq
    subst h2
    have hD5 : va_D (va_A ws s.heap.size) ws := h5.self
    obtain ⟨j1, j2⟩ := va_join (A0 := va_A ws s.heap.size) h3 hD5 isC isR hC hR hn hdis q5 (fz_A.sub isC hC) q2 q3
    exact ⟨⟨q1, fz_P.pick j1 isX hX, j2.sub isX hx hX⟩, q4, fun q hq hA => q5 q hq (fun z => hA (fz_A.sub isC hC q z))⟩
/-- calls -/
def fz_LB (y : MethodName) (b : ByteArray) (n : Nat) (ret : Option FieldType) (np : Nat) : Prop := fz_M (.initialized y.cls) ∧ fz_M (.code y b n ret) ∧ (y.cls ≠ "java/lang/invoke/MethodHandle" ∧ y.cls ≠ "java/lang/invoke/VarHandle" ∧ (parseMethodDescriptor y.desc).map (fun d => d.parameters.length) = some np)
def fz_LV (own : String) (idx : Nat) (y : MethodName) (b : ByteArray) (n : Nat) (ret : Option FieldType) (np : Nat) : Prop := fz_LB y b n ret np ∧ fz_M (.methodLink own idx y) ∧ fz_M (.instanceMethod y) ∧ fz_M (.selects y.cls y y)
def fz_LS (own : String) (idx : Nat) (y : MethodName) (b : ByteArray) (n : Nat) (ret : Option FieldType) (np : Nat) : Prop := fz_LB y b n ret np ∧ fz_M (.methodLink own idx y) ∧ fz_M (.static y)
def fz_LN (own : String) (idx : Nat) (y : MethodName) (b : ByteArray) (n : Nat) (ret : Option FieldType) (np : Nat) : Prop := fz_LB y b n ret np ∧ (∃ host : String, fz_M (.methodLinkNest own idx y host)) ∧ fz_M (.static y)
theorem fz_codeW {g : GG} {s : State} (hE : fz_E g s) {y : MethodName} {b : ByteArray} {n : Nat} {ret : Option FieldType} (h : fz_M (.code y b n ret)) : ∀ w ∈ ([.code y b n ret] : List Cond), ∀ (a' : Array Value) (U : State), s.WarmedH U.vm → w.before a' U = true := by
  intro w hw a' U hW
  rw [List.mem_singleton.mp hw]
  exact fz_warm h.2 hW (hE.use h #[])
section FZ
variable {p : Program} {l : Launch} {e : Env} {R : Room} {s : State} {m : MethodId} {args : Array Value} {below : List Frame} {meth : Method} {c : Code} {H : Heap} {locs : List Loc} {cells slots : Nat} {Q : State → Prop}
variable {own : String} {cc : ByteArray} {n : Nat} {ret : Option FieldType} {g : GG} {A : Nat → Prop} {ws : va_W} {pc : Nat} {ls : Array Slot} {rest : List Value} {a : Nat}
theorem fz_callB (X : fz_X p s m meth c own cc n ret g A) {y : MethodName} {b : ByteArray} {n' np rf rc rs rl idx : Nat} {ret' : Option FieldType} (hL : fz_LB y b n' ret' np) (hl : fz_M (.methodLink own idx y)) (hR : rf + 1 ≤ R.frames ∧ 8 + (n' + 11) + rl ≤ R.locals) :
    CallB R s args own idx y b n' ret' [.code y b n' ret'] (fz_R rf rc rs rl) rc rs np := by
  obtain ⟨-, -, -, -, -, -, hE, -⟩ := X
  refine ⟨rfl, rfl, hR.1, hR.2, fz_codeW hE hL.2.1, List.mem_cons_self, hE.use hL.2.1 _, hE.use hL.1 _, ⟨hL.2.2.1, hL.2.2.2.1⟩, fun sig h => ?_, hE.use hl _⟩
  have h2 := hL.2.2.2.2
  rw [h] at h2
  exact (Option.some.inj h2).symm
theorem fz_callN (X : fz_X p s m meth c own cc n ret g A) {y : MethodName} {b : ByteArray} {n' np rf rc rs rl idx : Nat} {ret' : Option FieldType} {host : String} (hL : fz_LB y b n' ret' np) (hl : fz_M (.methodLinkNest own idx y host)) (hR : rf + 1 ≤ R.frames ∧ 8 + (n' + 11) + rl ≤ R.locals) :
    va_CN R s args own idx y host b n' ret' [.code y b n' ret'] (fz_R rf rc rs rl) rc rs np := by
  obtain ⟨-, -, -, -, -, -, hE, -⟩ := X
  refine ⟨⟨rfl, rfl, hR.1, hR.2, fz_codeW hE hL.2.1, List.mem_cons_self⟩, hE.use hL.2.1 _, hE.use hL.1 _, ⟨hL.2.2.1, hL.2.2.2.1⟩, fun sig h => ?_, hE.use hl _⟩
  have h2 := hL.2.2.2.2
  rw [h] at h2
  exact (Option.some.inj h2).symm
theorem fz_pre (X : fz_X p s m meth c own cc n ret g A) (hW : fz_W g A s ws H locs) (as : List Value) : ∀ U : State, U.heap = H → s.WarmedH U.vm → fz_P g as ws H.size as.toArray U := by
  obtain ⟨-, -, -, -, -, -, hE, -⟩ := X
  intro U hU hw
  exact ⟨rfl, by rw [hU], by rw [hU]; exact hW.1, fz_E.warm hw hE, hW.2.1.weaken (fun _ _ _ _ => trivial)⟩
theorem fz_freeA (hA : ∀ q : Nat, s.heap.size ≤ q → A q) (hW : fz_W g A s ws H locs) : ∀ q, va_A ws H.size q → A q := by
  intro q h
  rcases h with ⟨k, e, h⟩ | h
  · exact hW.2.1.2 k (q, e) h
  · exact hA q (Nat.le_trans hW.2.2.1 h)
/-- behind a call: the callee's world is the caller's -/
theorem fz_back (X : fz_X p s m meth c own cc n ret g A) (hW : fz_W g A s ws H locs) {ws1 : va_W} {v : Option Value} {st0 : List Value} {av : Array Value} (hr : va_Run p l e R s m args below meth c H locs cells slots 0 0 (F0 m pc ls st0) rest (fz_Q g ws1 v (va_A ws H.size) av) (va_A ws H.size))
    (kk : ∀ (H1 : Heap) (locs1 : List Loc), fz_W g A s ws1 H1 locs1 → W p l e R s m args below meth c H1 locs1 cells slots Q (F0 m (pc + 3) ls (v.toList ++ rest))) : W p l e R s m args below meth c H locs cells slots Q (F0 m pc ls st0) := by
  obtain ⟨-, -, -, -, -, -, hE, hA⟩ := X
  have hF := fz_freeA hA hW
  intro T hT Y
  obtain ⟨v', st₀, t, T', L, h0, X', hL, e1, e2, ⟨⟨hv, hP, hD⟩, hz, hk⟩, st⟩ := hr T hT Y
  cases hv
  rw [h0] at hz hk
  obtain ⟨t2, a1, b1⟩ := kk T'.heap (locs ++ L) ⟨by rw [e1]; exact hP, hD.weaken (fun k q _ h => hF q.1 h), Nat.le_trans hW.2.2.1 (by rw [e1]; exact hz), fun q h1 h2 => by rw [e1, hk q (Nat.lt_of_lt_of_le h1 hW.2.2.1) (fun z => h2 (hF q z))]; exact hW.2.2.2.1 q h1 h2, fun q hq => by
      rcases List.mem_append.mp hq with h | h
      · exact hW.2.2.2.2 q h
      · exact hF _ (hL q h)⟩ T' rfl X'
  exact ⟨t2, st t2 a1, b1⟩
theorem fz_cV (X : fz_X p s m meth c own cc n ret g A) (hW : fz_W g A s ws H locs) {y : MethodName} {b : ByteArray} {n' np rf rl idx o ci q0 : Nat} {ret' : Option FieldType} {As : List Value} {ws1 : va_W} {v : Option Value} {fs : List Value} {C : vw_C} {lv : List (Nat × Value)} {st0 : List Value}
    (hM : fz_C l g y b n' ret' rf rl (.ref o :: As) ws ws1 v) (hL : fz_LV own idx y b n' ret' np) (hc : classes[ci]? = some C) (hC : C.1 = y.cls) (he : ws[q0]? = some (o, .inr (ci, fs))) (hn : As.length = np) (hR : rf + 1 ≤ R.frames ∧ 8 + (n' + 11) + rl ≤ R.locals) (hl : lv_has ls n lv) (hst : st0 = As.reverse ++ .ref o :: rest) (hrm : (rest.map fun v => v.category).sum ≤ 8) (hdg : decode cc pc = .ok (.invokevirtual idx, 3))
    (kk : ∀ (H1 : Heap) (locs1 : List Loc), fz_W g A s ws1 H1 locs1 → W p l e R s m args below meth c H1 locs1 cells slots Q (F0 m (pc + 3) ls (v.toList ++ rest))) (hcs : cells ≤ R.cells ∧ slots ≤ R.slots) : W p l e R s m args below meth c H locs cells slots Q (F0 m pc ls st0) := by
  have hE := X.2.2.2.2.2.2.1
  refine fz_back X hW (va_runV (y := y) (C := y.cls) (n := np) (Ts := []) ⟨X.1, X.2.1, X.2.2.2.1, X.2.2.2.2.1, fun _ h => absurd h List.not_mem_nil⟩ (hM H.size) ⟨fz_callB X hL.1 hL.2.1 hR, hE.use hL.2.2.1 _, hE.use hL.2.2.2 _⟩ ⟨fz_P.blind, hC ▸ va_recv hE.1 hW.1 hc he, fz_pre X hW _⟩ rfl hn hl.1 hst (lv_room hrm) hdg ⟨hcs.1, hcs.2⟩) kk
theorem fz_cS (X : fz_X p s m meth c own cc n ret g A) (hW : fz_W g A s ws H locs) {y : MethodName} {b : ByteArray} {n' np rf rl idx : Nat} {ret' : Option FieldType} {As : List Value} {ws1 : va_W} {v : Option Value} {lv : List (Nat × Value)} {st0 : List Value}
    (hM : fz_C l g y b n' ret' rf rl As ws ws1 v) (hL : fz_LS own idx y b n' ret' np) (hn : As.length = np) (hR : rf + 1 ≤ R.frames ∧ 8 + (n' + 11) + rl ≤ R.locals) (hl : lv_has ls n lv) (hst : st0 = As.reverse ++ rest) (hrm : (rest.map fun v => v.category).sum ≤ 8) (hdg : decode cc pc = .ok (.invokestatic idx, 3))
    (kk : ∀ (H1 : Heap) (locs1 : List Loc), fz_W g A s ws1 H1 locs1 → W p l e R s m args below meth c H1 locs1 cells slots Q (F0 m (pc + 3) ls (v.toList ++ rest))) (hcs : cells ≤ R.cells ∧ slots ≤ R.slots) : W p l e R s m args below meth c H locs cells slots Q (F0 m pc ls st0) := by
  have hE := X.2.2.2.2.2.2.1
  refine fz_back X hW (va_runS (y := y) (n := np) (Ts := []) ⟨X.1, X.2.1, X.2.2.2.1, X.2.2.2.2.1, fun _ h => absurd h List.not_mem_nil⟩ (hM H.size) ⟨fz_callB X hL.1 hL.2.1 hR, hE.use hL.2.2 _⟩ ⟨fz_P.blind, fz_pre X hW _⟩ rfl hn hl.1 hst (lv_room hrm) hdg ⟨hcs.1, hcs.2⟩) kk
theorem fz_cN (X : fz_X p s m meth c own cc n ret g A) (hW : fz_W g A s ws H locs) {y : MethodName} {b : ByteArray} {n' np rf rl idx : Nat} {ret' : Option FieldType} {As : List Value} {ws1 : va_W} {v : Option Value} {lv : List (Nat × Value)} {st0 : List Value}
    (hM : fz_C l g y b n' ret' rf rl As ws ws1 v) (hL : fz_LN own idx y b n' ret' np) (hn : As.length = np) (hR : rf + 1 ≤ R.frames ∧ 8 + (n' + 11) + rl ≤ R.locals) (hl : lv_has ls n lv) (hst : st0 = As.reverse ++ rest) (hrm : (rest.map fun v => v.category).sum ≤ 8) (hdg : decode cc pc = .ok (.invokestatic idx, 3))
    (kk : ∀ (H1 : Heap) (locs1 : List Loc), fz_W g A s ws1 H1 locs1 → W p l e R s m args below meth c H1 locs1 cells slots Q (F0 m (pc + 3) ls (v.toList ++ rest))) (hcs : cells ≤ R.cells ∧ slots ≤ R.slots) : W p l e R s m args below meth c H locs cells slots Q (F0 m pc ls st0) := by
  have hE := X.2.2.2.2.2.2.1
  obtain ⟨hB, ⟨host, hl1⟩, hst1⟩ := hL
  refine fz_back X hW (va_runSN (y := y) (n := np) (Ts := []) ⟨X.1, X.2.1, X.2.2.2.1, X.2.2.2.2.1, fun _ h => absurd h List.not_mem_nil⟩ (hM H.size) ⟨fz_callN X hB hl1 hR, hE.use hst1 _, trivial⟩ ⟨fz_P.blind, fz_pre X hW _⟩ rfl hn hl.1 hst (lv_room hrm) hdg ⟨hcs.1, hcs.2⟩) kk
/-- fields -/
theorem fz_gf (X : fz_X p s m meth c own cc n ret g A) (hW : fz_W g A s ws H locs) {C : String} {T : u_T} {N ci index : Nat} (hin : ∀ w ∈ u_ws C T N, fz_M w) (hc : classes[ci]? = some (C, T, N)) (k : Nat) (hk : k < N) (hlink : fz_M (.fieldLink own index C (T k).2.1 (T k).2.2.1)) (hT : (T k).1 = C) (q0 : Nat) {fs : List Value} (he : ws[q0]? = some (a, .inr (ci, fs))) {v : Value} (hv : fs[k]? = some v) (hdg : decode cc pc = .ok (.getfield index, 3))
    (kk : W p l e R s m args below meth c H locs cells slots Q (F0 m (pc + 3) ls (v :: rest))) : W p l e R s m args below meth c H locs cells slots Q (F0 m pc ls (.ref a :: rest)) :=
  va_get (D := g.1) (Ts := u_ws C T N) X.1 X.2.1 (fun w hw => X.2.2.2.2.2.2.1.use (hin w hw) args) (fun _ h => h) X.2.2.2.2.1 X.2.2.2.2.2.2.1.1 hW.1 q0 he hc k hk (X.2.2.2.2.2.2.1.use hlink args) (fun _ h9 => by rw [hT] at h9; exact h9) hv hdg kk
theorem fz_gn (X : fz_X p s m meth c own cc n ret g A) (hW : fz_W g A s ws H locs) {C host : String} {T : u_T} {N ci index : Nat} (hin : ∀ w ∈ u_ws C T N, fz_M w) (hc : classes[ci]? = some (C, T, N)) (k : Nat) (hk : k < N) (hlink : fz_M (.fieldLinkNest own index C (T k).2.1 (T k).2.2.1 host)) (hT : (T k).1 = C) (q0 : Nat) {fs : List Value} (he : ws[q0]? = some (a, .inr (ci, fs))) {v : Value} (hv : fs[k]? = some v) (hdg : decode cc pc = .ok (.getfield index, 3))
    (kk : W p l e R s m args below meth c H locs cells slots Q (F0 m (pc + 3) ls (v :: rest))) : W p l e R s m args below meth c H locs cells slots Q (F0 m pc ls (.ref a :: rest)) :=
  va_getN (D := g.1) (Ts := u_ws C T N) X.1 X.2.1 (fun w hw => X.2.2.2.2.2.2.1.use (hin w hw) args) (fun _ h => h) X.2.2.2.2.1 X.2.2.2.2.2.2.1.1 hW.1 q0 he hc k hk (X.2.2.2.2.2.2.1.use hlink args) (fun _ h9 => by rw [hT] at h9; exact h9) hv hdg kk
theorem fz_pf (X : fz_X p s m meth c own cc n ret g A) (hW : fz_W g A s ws H locs) {C : String} {T : u_T} {N ci index : Nat} (hin : ∀ w ∈ u_ws C T N, fz_M w) (hc : classes[ci]? = some (C, T, N)) (ty0 : Nat → FieldType) (hty : ∀ k, k < N → parseFieldDescriptor (T k).2.2.1 = some (ty0 k)) (hnm : ∀ a, a < N → ∀ b, b < N → a ≠ b → (T a).2.1 ≠ (T b).2.1) (k : Nat) (hk : k < N) (hlink : fz_M (.fieldLink own index C (T k).2.1 (T k).2.2.1)) (hT : (T k).1 = C) (hfin : (T k).2.2.2 = false) {v : Value} (hnr : narrow (ty0 k) v = v) (hfit : fits (ty0 k) v = true) (q0 : Nat) {fs : List Value} (he : ws[q0]? = some (a, .inr (ci, fs))) (hl : k < fs.length) (hdg : decode cc pc = .ok (.putfield index, 3))
    (kk : ∀ (H1 : Heap) (locs1 : List Loc), fz_W g A s (ws.set q0 (a, .inr (ci, fs.set k v))) H1 locs1 → W p l e R s m args below meth c H1 locs1 cells slots Q (F0 m (pc + 3) ls rest)) : W p l e R s m args below meth c H locs cells slots Q (F0 m pc ls (v :: .ref a :: rest)) :=
  va_put (D := g.1) (Ts := u_ws C T N) X.1 X.2.1 (fun w hw => X.2.2.2.2.2.2.1.use (hin w hw) args) (fun _ h => h) ty0 hty hnm X.2.2.2.2.1 X.2.2.2.2.2.2.1.1 hW.1 hW.2.1 hW.2.2 q0 he hc k hk (X.2.2.2.2.2.2.1.use hlink args) (fun _ h9 => by rw [hT] at h9; exact h9) hfin (hty k hk) hnr hfit hl hdg (fun H1 locs1 h1 h2 h3 => kk H1 locs1 ⟨h1, h2, h3⟩)
/-- rows of ints -/
theorem fz_il (X : fz_X p s m meth c own cc n ret g A) (hW : fz_W g A s ws H locs) (q0 t : Nat) {N : Nat} {f : Nat → Int32} (ha : ws[q0]? = some (a, .inl (g.2 0, N, .inl f))) {i : Int32} (hi : i = nI t) (ht : t < N) (hN : N < 2 ^ 31) (hdg : decode cc pc = .ok (.iaload, 1))
    (kk : W p l e R s m args below meth c H locs cells slots Q (F0 m (pc + 1) ls (.int (f t) :: rest))) : W p l e R s m args below meth c H locs cells slots Q (F0 m pc ls (.int i :: .ref a :: rest)) := by
  subst hi
  refine va_iald X.1 X.2.1 X.2.2.2.2.2.2.1.1 hW.1 q0 0 ha rfl (vp_in_nI ht hN) hdg ?_
  rw [nI_clamp (Nat.lt_trans ht hN)]
  exact kk
theorem fz_is (X : fz_X p s m meth c own cc n ret g A) (hW : fz_W g A s ws H locs) (q0 t : Nat) {N : Nat} {f : Nat → Int32} (ha : ws[q0]? = some (a, .inl (g.2 0, N, .inl f))) {i x : Int32} (hi : i = nI t) (ht : t < N) (hN : N < 2 ^ 31) (hdg : decode cc pc = .ok (.iastore, 1))
    (kk : ∀ (H1 : Heap) (locs1 : List Loc), fz_W g A s (ws.set q0 (a, .inl (g.2 0, N, .inl (upd f t x)))) H1 locs1 → W p l e R s m args below meth c H1 locs1 cells slots Q (F0 m (pc + 1) ls rest)) : W p l e R s m args below meth c H locs cells slots Q (F0 m pc ls (.int x :: .int i :: .ref a :: rest)) := by
  subst hi
  refine va_iast X.1 X.2.1 X.2.2.2.2.2.2.1.1 hW.1 hW.2.1 hW.2.2 q0 0 ha rfl (vp_in_nI ht hN) hdg (fun H1 locs1 h1 h2 h3 => ?_)
  rw [nI_clamp (Nat.lt_trans ht hN)] at h1 h2
  exact kk H1 locs1 ⟨h1, h2, h3⟩
theorem fz_ql (X : fz_X p s m meth c own cc n ret g A) (hW : fz_W g A s ws H locs) (q0 t : Nat) {N : Nat} {f : Nat → Option Nat} {o : Nat} (ha : ws[q0]? = some (a, .inl (g.2 3, N, .inr (.inr (.inr (.inr f)))))) {i : Int32} (hi : i = nI t) (ht : t < N) (hN : N < 2 ^ 31) (ho : f t = some o) (hdg : decode cc pc = .ok (.aaload, 1))
    (kk : W p l e R s m args below meth c H locs cells slots Q (F0 m (pc + 1) ls (.ref o :: rest))) : W p l e R s m args below meth c H locs cells slots Q (F0 m pc ls (.int i :: .ref a :: rest)) := by
  subst hi
  refine va_aldq X.1 X.2.1 X.2.2.2.2.2.2.1.1 hW.1 q0 3 ha rfl (vp_in_nI ht hN) hdg ?_
  rw [nI_clamp (Nat.lt_trans ht hN), ho]
  exact kk
theorem fz_al (X : fz_X p s m meth c own cc n ret g A) (hW : fz_W g A s ws H locs) (q0 t0 : Nat) {cA : ClassId} {ty : FieldType} {x : vp_A} (ha : ws[q0]? = some (a, .inl (cA, x))) (ht : (fz_tys g)[t0]? = some (cA, ty)) {v : Int32} (hv : Int32.ofNat x.1 = v) (hdg : decode cc pc = .ok (.arraylength, 1))
    (kk : W p l e R s m args below meth c H locs cells slots Q (F0 m (pc + 1) ls (.int v :: rest))) : W p l e R s m args below meth c H locs cells slots Q (F0 m pc ls (.ref a :: rest)) :=
  va_alen X.1 X.2.1 X.2.2.2.2.2.2.1.1 hW.1 q0 t0 ha ht hv hdg kk
/-- ends -/
theorem fz_ri (X : fz_X p s m meth c own cc n (some .int) g A) (hW : fz_W g A s ws H locs) {v v' : Int32} (hv : v' = v) (hdg : decode cc pc = .ok (.ireturn, 1)) : W p l e R s m args below meth c H locs cells slots (MQ below (fz_Q g ws (some (.int v)) A) args s cells slots A) (F0 m pc ls [.int v']) := by
  subst hv
  exact W.iret X.1 X.2.1 X.2.2.1 (fun t ht _ => ⟨⟨rfl, by rw [ht]; exact hW.1, hW.2.1⟩, hW.2.2.F ht⟩) hW.2.2.2.2 hdg X.2.2.2.2.2.1
theorem fz_rz (X : fz_X p s m meth c own cc n (some .boolean) g A) (hW : fz_W g A s ws H locs) {v v' : Int32} (hv : v' = v) (hn : narrow .boolean (.int v) = .int v) (hdg : decode cc pc = .ok (.ireturn, 1)) : W p l e R s m args below meth c H locs cells slots (MQ below (fz_Q g ws (some (.int v)) A) args s cells slots A) (F0 m pc ls [.int v']) := by
  subst hv
  exact W.zret X.1 X.2.1 X.2.2.1 hn (fun t ht _ => ⟨⟨rfl, by rw [ht]; exact hW.1, hW.2.1⟩, hW.2.2.F ht⟩) hW.2.2.2.2 hdg X.2.2.2.2.2.1
theorem fz_rl (X : fz_X p s m meth c own cc n (some .long) g A) (hW : fz_W g A s ws H locs) {v v' : Int64} (hv : v' = v) (hdg : decode cc pc = .ok (.lreturn, 1)) : W p l e R s m args below meth c H locs cells slots (MQ below (fz_Q g ws (some (.long v)) A) args s cells slots A) (F0 m pc ls [.long v']) := by
  subst hv
  exact W.lret X.1 X.2.1 X.2.2.1 (fun t ht _ => ⟨⟨rfl, by rw [ht]; exact hW.1, hW.2.1⟩, hW.2.2.F ht⟩) hW.2.2.2.2 hdg X.2.2.2.2.2.1
theorem fz_rv (X : fz_X p s m meth c own cc n none g A) (hW : fz_W g A s ws H locs) (hdg : decode cc pc = .ok (.return_, 1)) : W p l e R s m args below meth c H locs cells slots (MQ below (fz_Q g ws none A) args s cells slots A) (F0 m pc ls []) :=
  W.vret X.1 X.2.1 X.2.2.1 (fun t ht _ => ⟨⟨rfl, by rw [ht]; exact hW.1, hW.2.1⟩, hW.2.2.F ht⟩) hW.2.2.2.2 hdg X.2.2.2.2.2.1
theorem fz_cast {ws ws' : va_W} (h : ws = ws') (hW : fz_W g A s ws H locs) : fz_W g A s ws' H locs := h ▸ hW
end FZ
end
section
/-! the words of the links, each by its place; fields and calls, a row each (printed by a program out of the tables) -/
theorem inX0 : ∀ w ∈ u_ws RX0 TX0 6, w ∈ lw_tbl ∧ fz_keep w = true := by decide +kernel
theorem inX1 : ∀ w ∈ u_ws RX1 TX1 2, w ∈ lw_tbl ∧ fz_keep w = true := by decide +kernel
theorem inX2 : ∀ w ∈ u_ws RX2 TX2 14, w ∈ lw_tbl ∧ fz_keep w = true := by decide +kernel
theorem inX3 : ∀ w ∈ u_ws RX3 TX3 2, w ∈ lw_tbl ∧ fz_keep w = true := by decide +kernel
theorem mw_136 : fz_M (.fieldLink RX3 10 RX3 (TX3 0).2.1 (TX3 0).2.2.1) := ⟨List.mem_of_getElem? (i := 136) (by decide +kernel), by decide +kernel⟩
theorem mw_137 : fz_M (.fieldLink RX3 16 RX3 (TX3 1).2.1 (TX3 1).2.2.1) := ⟨List.mem_of_getElem? (i := 137) (by decide +kernel), by decide +kernel⟩
theorem mw_96 : fz_M (.fieldLinkNest RX3 44 RX2 (TX2 8).2.1 (TX2 8).2.2.1 "FarScreen") := ⟨List.mem_of_getElem? (i := 96) (by decide +kernel), by decide +kernel⟩
theorem mw_106 : fz_M (.fieldLinkNest RX3 52 RX2 (TX2 13).2.1 (TX2 13).2.2.1 "FarScreen") := ⟨List.mem_of_getElem? (i := 106) (by decide +kernel), by decide +kernel⟩
theorem mw_104 : fz_M (.fieldLinkNest RX3 67 RX2 (TX2 12).2.1 (TX2 12).2.2.1 "FarScreen") := ⟨List.mem_of_getElem? (i := 104) (by decide +kernel), by decide +kernel⟩
theorem mw_85 : fz_M (.fieldLinkNest RX3 70 RX2 (TX2 0).2.1 (TX2 0).2.2.1 "FarScreen") := ⟨List.mem_of_getElem? (i := 85) (by decide +kernel), by decide +kernel⟩
theorem mw_87 : fz_M (.fieldLinkNest RX3 74 RX2 (TX2 1).2.1 (TX2 1).2.2.1 "FarScreen") := ⟨List.mem_of_getElem? (i := 87) (by decide +kernel), by decide +kernel⟩
theorem mw_89 : fz_M (.fieldLinkNest RX3 80 RX2 (TX2 2).2.1 (TX2 2).2.2.1 "FarScreen") := ⟨List.mem_of_getElem? (i := 89) (by decide +kernel), by decide +kernel⟩
theorem mw_98 : fz_M (.fieldLinkNest RX3 90 RX2 (TX2 9).2.1 (TX2 9).2.2.1 "FarScreen") := ⟨List.mem_of_getElem? (i := 98) (by decide +kernel), by decide +kernel⟩
theorem mw_53 : fz_M (.fieldLinkNest RX3 94 RX1 (TX1 1).2.1 (TX1 1).2.2.1 "FarScreen") := ⟨List.mem_of_getElem? (i := 53) (by decide +kernel), by decide +kernel⟩
theorem mw_51 : fz_M (.fieldLinkNest RX3 104 RX1 (TX1 0).2.1 (TX1 0).2.2.1 "FarScreen") := ⟨List.mem_of_getElem? (i := 51) (by decide +kernel), by decide +kernel⟩
theorem mw_100 : fz_M (.fieldLinkNest RX3 109 RX2 (TX2 10).2.1 (TX2 10).2.2.1 "FarScreen") := ⟨List.mem_of_getElem? (i := 100) (by decide +kernel), by decide +kernel⟩
theorem mw_102 : fz_M (.fieldLinkNest RX3 112 RX2 (TX2 11).2.1 (TX2 11).2.2.1 "FarScreen") := ⟨List.mem_of_getElem? (i := 102) (by decide +kernel), by decide +kernel⟩
theorem mw_16 : fz_M (.initialized "FarScreen$Sender") := ⟨List.mem_of_getElem? (i := 16) (by decide +kernel), by decide +kernel⟩
theorem mw_38 : fz_M (.methodLink RX3 9 yX2_init) := ⟨List.mem_of_getElem? (i := 38) (by decide +kernel), by decide +kernel⟩
theorem mw_40 : fz_M (.code yX2_init cX2_init 2 none) := ⟨List.mem_of_getElem? (i := 40) (by decide +kernel), by decide +kernel⟩
theorem mw_39 : fz_M (.instanceMethod yX2_init) := ⟨List.mem_of_getElem? (i := 39) (by decide +kernel), by decide +kernel⟩
theorem mw_15 : fz_M (.initialized "FarScreen") := ⟨List.mem_of_getElem? (i := 15) (by decide +kernel), by decide +kernel⟩
theorem mw_147 : fz_M (.methodLink RX3 19 yX3_checkBlock) := ⟨List.mem_of_getElem? (i := 147) (by decide +kernel), by decide +kernel⟩
theorem mw_149 : fz_M (.code yX3_checkBlock cX3_checkBlock 4 none) := ⟨List.mem_of_getElem? (i := 149) (by decide +kernel), by decide +kernel⟩
theorem mw_148 : fz_M (.static yX3_checkBlock) := ⟨List.mem_of_getElem? (i := 148) (by decide +kernel), by decide +kernel⟩
theorem mw_150 : fz_M (.methodLink RX3 48 yX3_checkTile) := ⟨List.mem_of_getElem? (i := 150) (by decide +kernel), by decide +kernel⟩
theorem mw_152 : fz_M (.code yX3_checkTile cX3_checkTile 2 none) := ⟨List.mem_of_getElem? (i := 152) (by decide +kernel), by decide +kernel⟩
theorem mw_151 : fz_M (.static yX3_checkTile) := ⟨List.mem_of_getElem? (i := 151) (by decide +kernel), by decide +kernel⟩
theorem mw_292 : fz_M (.methodLink RX3 55 yX3_tileAt) := ⟨List.mem_of_getElem? (i := 292) (by decide +kernel), by decide +kernel⟩
theorem mw_246 : fz_M (.code yX3_tileAt cX3_tileAt 2 (some .int)) := ⟨List.mem_of_getElem? (i := 246) (by decide +kernel), by decide +kernel⟩
theorem mw_245 : fz_M (.static yX3_tileAt) := ⟨List.mem_of_getElem? (i := 245) (by decide +kernel), by decide +kernel⟩
theorem mw_297 : fz_M (.methodLink RX3 59 yX3_checkBudget) := ⟨List.mem_of_getElem? (i := 297) (by decide +kernel), by decide +kernel⟩
theorem mw_299 : fz_M (.code yX3_checkBudget cX3_checkBudget 1 none) := ⟨List.mem_of_getElem? (i := 299) (by decide +kernel), by decide +kernel⟩
theorem mw_298 : fz_M (.static yX3_checkBudget) := ⟨List.mem_of_getElem? (i := 298) (by decide +kernel), by decide +kernel⟩
theorem mw_486 : fz_M (.methodLink RX3 115 yX3_wholeCost) := ⟨List.mem_of_getElem? (i := 486) (by decide +kernel), by decide +kernel⟩
theorem mw_377 : fz_M (.code yX3_wholeCost cX3_wholeCost 1 (some .int)) := ⟨List.mem_of_getElem? (i := 377) (by decide +kernel), by decide +kernel⟩
theorem mw_376 : fz_M (.static yX3_wholeCost) := ⟨List.mem_of_getElem? (i := 376) (by decide +kernel), by decide +kernel⟩
theorem mw_237 : fz_M (.methodLink RX3 30 yX2_paint) := ⟨List.mem_of_getElem? (i := 237) (by decide +kernel), by decide +kernel⟩
theorem mw_240 : fz_M (.code yX2_paint cX2_paint 8 none) := ⟨List.mem_of_getElem? (i := 240) (by decide +kernel), by decide +kernel⟩
theorem mw_238 : fz_M (.instanceMethod yX2_paint) := ⟨List.mem_of_getElem? (i := 238) (by decide +kernel), by decide +kernel⟩
theorem mw_239 : fz_M (.selects yX2_paint.cls yX2_paint yX2_paint) := ⟨List.mem_of_getElem? (i := 239) (by decide +kernel), by decide +kernel⟩
theorem mw_255 : fz_M (.methodLink RX3 34 yX2_countUnlike) := ⟨List.mem_of_getElem? (i := 255) (by decide +kernel), by decide +kernel⟩
theorem mw_258 : fz_M (.code yX2_countUnlike cX2_countUnlike 1 (some .int)) := ⟨List.mem_of_getElem? (i := 258) (by decide +kernel), by decide +kernel⟩
theorem mw_256 : fz_M (.instanceMethod yX2_countUnlike) := ⟨List.mem_of_getElem? (i := 256) (by decide +kernel), by decide +kernel⟩
theorem mw_257 : fz_M (.selects yX2_countUnlike.cls yX2_countUnlike yX2_countUnlike) := ⟨List.mem_of_getElem? (i := 257) (by decide +kernel), by decide +kernel⟩
theorem mw_274 : fz_M (.methodLink RX3 40 yX2_shift) := ⟨List.mem_of_getElem? (i := 274) (by decide +kernel), by decide +kernel⟩
theorem mw_277 : fz_M (.code yX2_shift cX2_shift 8 none) := ⟨List.mem_of_getElem? (i := 277) (by decide +kernel), by decide +kernel⟩
theorem mw_275 : fz_M (.instanceMethod yX2_shift) := ⟨List.mem_of_getElem? (i := 275) (by decide +kernel), by decide +kernel⟩
theorem mw_276 : fz_M (.selects yX2_shift.cls yX2_shift yX2_shift) := ⟨List.mem_of_getElem? (i := 276) (by decide +kernel), by decide +kernel⟩
theorem mw_301 : fz_M (.methodLink RX3 63 yX2_passStep) := ⟨List.mem_of_getElem? (i := 301) (by decide +kernel), by decide +kernel⟩
theorem mw_304 : fz_M (.code yX2_passStep cX2_passStep 3 (some .int)) := ⟨List.mem_of_getElem? (i := 304) (by decide +kernel), by decide +kernel⟩
theorem mw_302 : fz_M (.instanceMethod yX2_passStep) := ⟨List.mem_of_getElem? (i := 302) (by decide +kernel), by decide +kernel⟩
theorem mw_303 : fz_M (.selects yX2_passStep.cls yX2_passStep yX2_passStep) := ⟨List.mem_of_getElem? (i := 303) (by decide +kernel), by decide +kernel⟩
theorem mw_468 : fz_M (.methodLink RX3 77 yX2_kindOf) := ⟨List.mem_of_getElem? (i := 468) (by decide +kernel), by decide +kernel⟩
theorem mw_364 : fz_M (.code yX2_kindOf cX2_kindOf 2 (some .int)) := ⟨List.mem_of_getElem? (i := 364) (by decide +kernel), by decide +kernel⟩
theorem mw_362 : fz_M (.instanceMethod yX2_kindOf) := ⟨List.mem_of_getElem? (i := 362) (by decide +kernel), by decide +kernel⟩
theorem mw_363 : fz_M (.selects yX2_kindOf.cls yX2_kindOf yX2_kindOf) := ⟨List.mem_of_getElem? (i := 363) (by decide +kernel), by decide +kernel⟩
theorem mw_386 : fz_M (.methodLink RX3 83 yX2_unlikeSet) := ⟨List.mem_of_getElem? (i := 386) (by decide +kernel), by decide +kernel⟩
theorem mw_262 : fz_M (.code yX2_unlikeSet cX2_unlikeSet 4 (some .long)) := ⟨List.mem_of_getElem? (i := 262) (by decide +kernel), by decide +kernel⟩
theorem mw_260 : fz_M (.instanceMethod yX2_unlikeSet) := ⟨List.mem_of_getElem? (i := 260) (by decide +kernel), by decide +kernel⟩
theorem mw_261 : fz_M (.selects yX2_unlikeSet.cls yX2_unlikeSet yX2_unlikeSet) := ⟨List.mem_of_getElem? (i := 261) (by decide +kernel), by decide +kernel⟩
theorem mw_478 : fz_M (.methodLink RX3 87 yX2_countRough) := ⟨List.mem_of_getElem? (i := 478) (by decide +kernel), by decide +kernel⟩
theorem mw_481 : fz_M (.code yX2_countRough cX2_countRough 3 (some .int)) := ⟨List.mem_of_getElem? (i := 481) (by decide +kernel), by decide +kernel⟩
theorem mw_479 : fz_M (.instanceMethod yX2_countRough) := ⟨List.mem_of_getElem? (i := 479) (by decide +kernel), by decide +kernel⟩
theorem mw_480 : fz_M (.selects yX2_countRough.cls yX2_countRough yX2_countRough) := ⟨List.mem_of_getElem? (i := 480) (by decide +kernel), by decide +kernel⟩
theorem mw_395 : fz_M (.methodLink RX3 118 yX2_copyFrom) := ⟨List.mem_of_getElem? (i := 395) (by decide +kernel), by decide +kernel⟩
theorem mw_398 : fz_M (.code yX2_copyFrom cX2_copyFrom 3 none) := ⟨List.mem_of_getElem? (i := 398) (by decide +kernel), by decide +kernel⟩
theorem mw_396 : fz_M (.instanceMethod yX2_copyFrom) := ⟨List.mem_of_getElem? (i := 396) (by decide +kernel), by decide +kernel⟩
theorem mw_397 : fz_M (.selects yX2_copyFrom.cls yX2_copyFrom yX2_copyFrom) := ⟨List.mem_of_getElem? (i := 397) (by decide +kernel), by decide +kernel⟩
theorem mw_404 : fz_M (.methodLink RX3 122 yX2_isAllSent) := ⟨List.mem_of_getElem? (i := 404) (by decide +kernel), by decide +kernel⟩
theorem mw_407 : fz_M (.code yX2_isAllSent cX2_isAllSent 1 (some .boolean)) := ⟨List.mem_of_getElem? (i := 407) (by decide +kernel), by decide +kernel⟩
theorem mw_405 : fz_M (.instanceMethod yX2_isAllSent) := ⟨List.mem_of_getElem? (i := 405) (by decide +kernel), by decide +kernel⟩
theorem mw_406 : fz_M (.selects yX2_isAllSent.cls yX2_isAllSent yX2_isAllSent) := ⟨List.mem_of_getElem? (i := 406) (by decide +kernel), by decide +kernel⟩
theorem mw_408 : fz_M (.methodLink RX3 126 yX2_hasFilm) := ⟨List.mem_of_getElem? (i := 408) (by decide +kernel), by decide +kernel⟩
theorem mw_411 : fz_M (.code yX2_hasFilm cX2_hasFilm 2 (some .boolean)) := ⟨List.mem_of_getElem? (i := 411) (by decide +kernel), by decide +kernel⟩
theorem mw_409 : fz_M (.instanceMethod yX2_hasFilm) := ⟨List.mem_of_getElem? (i := 409) (by decide +kernel), by decide +kernel⟩
theorem mw_410 : fz_M (.selects yX2_hasFilm.cls yX2_hasFilm yX2_hasFilm) := ⟨List.mem_of_getElem? (i := 410) (by decide +kernel), by decide +kernel⟩
theorem mw_65 : fz_M (.fieldLink RX0 9 RX0 (TX0 0).2.1 (TX0 0).2.2.1) := ⟨List.mem_of_getElem? (i := 65) (by decide +kernel), by decide +kernel⟩
theorem mw_66 : fz_M (.fieldLink RX0 15 RX0 (TX0 1).2.1 (TX0 1).2.2.1) := ⟨List.mem_of_getElem? (i := 66) (by decide +kernel), by decide +kernel⟩
theorem mw_67 : fz_M (.fieldLink RX0 18 RX0 (TX0 2).2.1 (TX0 2).2.2.1) := ⟨List.mem_of_getElem? (i := 67) (by decide +kernel), by decide +kernel⟩
theorem mw_68 : fz_M (.fieldLink RX0 21 RX0 (TX0 3).2.1 (TX0 3).2.2.1) := ⟨List.mem_of_getElem? (i := 68) (by decide +kernel), by decide +kernel⟩
theorem mw_69 : fz_M (.fieldLink RX0 24 RX0 (TX0 4).2.1 (TX0 4).2.2.1) := ⟨List.mem_of_getElem? (i := 69) (by decide +kernel), by decide +kernel⟩
theorem mw_70 : fz_M (.fieldLink RX0 27 RX0 (TX0 5).2.1 (TX0 5).2.2.1) := ⟨List.mem_of_getElem? (i := 70) (by decide +kernel), by decide +kernel⟩
theorem mw_287 : fz_M (.methodLinkNest RX0 40 yX3_tileAt "FarScreen") := ⟨List.mem_of_getElem? (i := 287) (by decide +kernel), by decide +kernel⟩
theorem mw_18 : fz_M (.initialized "FarScreen$BlockMove") := ⟨List.mem_of_getElem? (i := 18) (by decide +kernel), by decide +kernel⟩
theorem mw_317 : fz_M (.methodLink RX0 30 yX0_set) := ⟨List.mem_of_getElem? (i := 317) (by decide +kernel), by decide +kernel⟩
theorem mw_281 : fz_M (.code yX0_set cX0_set 7 none) := ⟨List.mem_of_getElem? (i := 281) (by decide +kernel), by decide +kernel⟩
theorem mw_279 : fz_M (.instanceMethod yX0_set) := ⟨List.mem_of_getElem? (i := 279) (by decide +kernel), by decide +kernel⟩
theorem mw_280 : fz_M (.selects yX0_set.cls yX0_set yX0_set) := ⟨List.mem_of_getElem? (i := 280) (by decide +kernel), by decide +kernel⟩
theorem mw_50 : fz_M (.fieldLink RX1 9 RX1 (TX1 0).2.1 (TX1 0).2.2.1) := ⟨List.mem_of_getElem? (i := 50) (by decide +kernel), by decide +kernel⟩
theorem mw_52 : fz_M (.fieldLink RX1 15 RX1 (TX1 1).2.1 (TX1 1).2.2.1) := ⟨List.mem_of_getElem? (i := 52) (by decide +kernel), by decide +kernel⟩
theorem mw_17 : fz_M (.initialized "FarScreen$KnownRow") := ⟨List.mem_of_getElem? (i := 17) (by decide +kernel), by decide +kernel⟩
theorem mw_349 : fz_M (.methodLink RX1 25 yX1_placeOf) := ⟨List.mem_of_getElem? (i := 349) (by decide +kernel), by decide +kernel⟩
theorem mw_352 : fz_M (.code yX1_placeOf cX1_placeOf 3 (some .int)) := ⟨List.mem_of_getElem? (i := 352) (by decide +kernel), by decide +kernel⟩
theorem mw_350 : fz_M (.instanceMethod yX1_placeOf) := ⟨List.mem_of_getElem? (i := 350) (by decide +kernel), by decide +kernel⟩
theorem mw_351 : fz_M (.selects yX1_placeOf.cls yX1_placeOf yX1_placeOf) := ⟨List.mem_of_getElem? (i := 351) (by decide +kernel), by decide +kernel⟩
theorem mw_84 : fz_M (.fieldLink RX2 9 RX2 (TX2 0).2.1 (TX2 0).2.2.1) := ⟨List.mem_of_getElem? (i := 84) (by decide +kernel), by decide +kernel⟩
theorem mw_86 : fz_M (.fieldLink RX2 15 RX2 (TX2 1).2.1 (TX2 1).2.2.1) := ⟨List.mem_of_getElem? (i := 86) (by decide +kernel), by decide +kernel⟩
theorem mw_88 : fz_M (.fieldLink RX2 18 RX2 (TX2 2).2.1 (TX2 2).2.2.1) := ⟨List.mem_of_getElem? (i := 88) (by decide +kernel), by decide +kernel⟩
theorem mw_90 : fz_M (.fieldLink RX2 21 RX2 (TX2 3).2.1 (TX2 3).2.2.1) := ⟨List.mem_of_getElem? (i := 90) (by decide +kernel), by decide +kernel⟩
theorem mw_91 : fz_M (.fieldLink RX2 24 RX2 (TX2 4).2.1 (TX2 4).2.2.1) := ⟨List.mem_of_getElem? (i := 91) (by decide +kernel), by decide +kernel⟩
theorem mw_92 : fz_M (.fieldLink RX2 27 RX2 (TX2 5).2.1 (TX2 5).2.2.1) := ⟨List.mem_of_getElem? (i := 92) (by decide +kernel), by decide +kernel⟩
theorem mw_93 : fz_M (.fieldLink RX2 30 RX2 (TX2 6).2.1 (TX2 6).2.2.1) := ⟨List.mem_of_getElem? (i := 93) (by decide +kernel), by decide +kernel⟩
theorem mw_94 : fz_M (.fieldLink RX2 35 RX2 (TX2 7).2.1 (TX2 7).2.2.1) := ⟨List.mem_of_getElem? (i := 94) (by decide +kernel), by decide +kernel⟩
theorem mw_95 : fz_M (.fieldLink RX2 39 RX2 (TX2 8).2.1 (TX2 8).2.2.1) := ⟨List.mem_of_getElem? (i := 95) (by decide +kernel), by decide +kernel⟩
theorem mw_97 : fz_M (.fieldLink RX2 46 RX2 (TX2 9).2.1 (TX2 9).2.2.1) := ⟨List.mem_of_getElem? (i := 97) (by decide +kernel), by decide +kernel⟩
theorem mw_99 : fz_M (.fieldLink RX2 50 RX2 (TX2 10).2.1 (TX2 10).2.2.1) := ⟨List.mem_of_getElem? (i := 99) (by decide +kernel), by decide +kernel⟩
theorem mw_101 : fz_M (.fieldLink RX2 53 RX2 (TX2 11).2.1 (TX2 11).2.2.1) := ⟨List.mem_of_getElem? (i := 101) (by decide +kernel), by decide +kernel⟩
theorem mw_103 : fz_M (.fieldLink RX2 56 RX2 (TX2 12).2.1 (TX2 12).2.2.1) := ⟨List.mem_of_getElem? (i := 103) (by decide +kernel), by decide +kernel⟩
theorem mw_105 : fz_M (.fieldLink RX2 59 RX2 (TX2 13).2.1 (TX2 13).2.2.1) := ⟨List.mem_of_getElem? (i := 105) (by decide +kernel), by decide +kernel⟩
theorem mw_46 : fz_M (.methodLinkNest RX2 45 yX1_init "FarScreen") := ⟨List.mem_of_getElem? (i := 46) (by decide +kernel), by decide +kernel⟩
theorem mw_48 : fz_M (.code yX1_init cX1_init 1 none) := ⟨List.mem_of_getElem? (i := 48) (by decide +kernel), by decide +kernel⟩
theorem mw_47 : fz_M (.instanceMethod yX1_init) := ⟨List.mem_of_getElem? (i := 47) (by decide +kernel), by decide +kernel⟩
theorem mw_61 : fz_M (.methodLinkNest RX2 62 yX0_init "FarScreen") := ⟨List.mem_of_getElem? (i := 61) (by decide +kernel), by decide +kernel⟩
theorem mw_63 : fz_M (.code yX0_init cX0_init 1 none) := ⟨List.mem_of_getElem? (i := 63) (by decide +kernel), by decide +kernel⟩
theorem mw_62 : fz_M (.instanceMethod yX0_init) := ⟨List.mem_of_getElem? (i := 62) (by decide +kernel), by decide +kernel⟩
theorem mw_244 : fz_M (.methodLinkNest RX2 76 yX3_tileAt "FarScreen") := ⟨List.mem_of_getElem? (i := 244) (by decide +kernel), by decide +kernel⟩
theorem mw_27 : fz_M (.initialized "java/lang/Integer") := ⟨List.mem_of_getElem? (i := 27) (by decide +kernel), by decide +kernel⟩
theorem mw_365 : fz_M (.methodLink RX2 94 yJ6_bitCount_0f7a4) := ⟨List.mem_of_getElem? (i := 365) (by decide +kernel), by decide +kernel⟩
theorem mw_367 : fz_M (.code yJ6_bitCount_0f7a4 cJ6_bitCount_0f7a4 1 (some .int)) := ⟨List.mem_of_getElem? (i := 367) (by decide +kernel), by decide +kernel⟩
theorem mw_366 : fz_M (.static yJ6_bitCount_0f7a4) := ⟨List.mem_of_getElem? (i := 366) (by decide +kernel), by decide +kernel⟩
theorem mw_25 : fz_M (.initialized "java/lang/Long") := ⟨List.mem_of_getElem? (i := 25) (by decide +kernel), by decide +kernel⟩
theorem mw_263 : fz_M (.methodLink RX2 107 yJ13_bitCount_95d88) := ⟨List.mem_of_getElem? (i := 263) (by decide +kernel), by decide +kernel⟩
theorem mw_265 : fz_M (.code yJ13_bitCount_95d88 cJ13_bitCount_95d88 2 (some .int)) := ⟨List.mem_of_getElem? (i := 265) (by decide +kernel), by decide +kernel⟩
theorem mw_264 : fz_M (.static yJ13_bitCount_95d88) := ⟨List.mem_of_getElem? (i := 264) (by decide +kernel), by decide +kernel⟩
theorem mw_26 : fz_M (.initialized "java/lang/Math") := ⟨List.mem_of_getElem? (i := 26) (by decide +kernel), by decide +kernel⟩
theorem mw_334 : fz_M (.methodLink RX2 143 yJ9_abs_0f7a4) := ⟨List.mem_of_getElem? (i := 334) (by decide +kernel), by decide +kernel⟩
theorem mw_336 : fz_M (.code yJ9_abs_0f7a4 cJ9_abs_0f7a4 1 (some .int)) := ⟨List.mem_of_getElem? (i := 336) (by decide +kernel), by decide +kernel⟩
theorem mw_335 : fz_M (.static yJ9_abs_0f7a4) := ⟨List.mem_of_getElem? (i := 335) (by decide +kernel), by decide +kernel⟩
theorem mw_375 : fz_M (.methodLinkNest RX2 158 yX3_wholeCost "FarScreen") := ⟨List.mem_of_getElem? (i := 375) (by decide +kernel), by decide +kernel⟩
theorem mw_313 : fz_M (.methodLink RX2 69 yX0_copyFrom) := ⟨List.mem_of_getElem? (i := 313) (by decide +kernel), by decide +kernel⟩
theorem mw_316 : fz_M (.code yX0_copyFrom cX0_copyFrom 2 none) := ⟨List.mem_of_getElem? (i := 316) (by decide +kernel), by decide +kernel⟩
theorem mw_314 : fz_M (.instanceMethod yX0_copyFrom) := ⟨List.mem_of_getElem? (i := 314) (by decide +kernel), by decide +kernel⟩
theorem mw_315 : fz_M (.selects yX0_copyFrom.cls yX0_copyFrom yX0_copyFrom) := ⟨List.mem_of_getElem? (i := 315) (by decide +kernel), by decide +kernel⟩
theorem mw_399 : fz_M (.methodLink RX2 73 yX1_copyFrom) := ⟨List.mem_of_getElem? (i := 399) (by decide +kernel), by decide +kernel⟩
theorem mw_402 : fz_M (.code yX1_copyFrom cX1_copyFrom 2 none) := ⟨List.mem_of_getElem? (i := 402) (by decide +kernel), by decide +kernel⟩
theorem mw_400 : fz_M (.instanceMethod yX1_copyFrom) := ⟨List.mem_of_getElem? (i := 400) (by decide +kernel), by decide +kernel⟩
theorem mw_401 : fz_M (.selects yX1_copyFrom.cls yX1_copyFrom yX1_copyFrom) := ⟨List.mem_of_getElem? (i := 401) (by decide +kernel), by decide +kernel⟩
theorem mw_247 : fz_M (.methodLink RX2 80 yX2_noteChanges) := ⟨List.mem_of_getElem? (i := 247) (by decide +kernel), by decide +kernel⟩
theorem mw_250 : fz_M (.code yX2_noteChanges cX2_noteChanges 2 none) := ⟨List.mem_of_getElem? (i := 250) (by decide +kernel), by decide +kernel⟩
theorem mw_249 : fz_M (.instanceMethod yX2_noteChanges) := ⟨List.mem_of_getElem? (i := 249) (by decide +kernel), by decide +kernel⟩
theorem mw_1 : fz_M (.selects yX2_noteChanges.cls yX2_noteChanges yX2_noteChanges) := ⟨List.mem_of_getElem? (i := 1) (by decide +kernel), by decide +kernel⟩
theorem mw_251 : fz_M (.methodLink RX2 83 yX2_noteUnlike) := ⟨List.mem_of_getElem? (i := 251) (by decide +kernel), by decide +kernel⟩
theorem mw_254 : fz_M (.code yX2_noteUnlike cX2_noteUnlike 2 none) := ⟨List.mem_of_getElem? (i := 254) (by decide +kernel), by decide +kernel⟩
theorem mw_253 : fz_M (.instanceMethod yX2_noteUnlike) := ⟨List.mem_of_getElem? (i := 253) (by decide +kernel), by decide +kernel⟩
theorem mw_2 : fz_M (.selects yX2_noteUnlike.cls yX2_noteUnlike yX2_noteUnlike) := ⟨List.mem_of_getElem? (i := 2) (by decide +kernel), by decide +kernel⟩
theorem mw_278 : fz_M (.methodLink RX2 86 yX0_set) := ⟨List.mem_of_getElem? (i := 278) (by decide +kernel), by decide +kernel⟩
theorem mw_282 : fz_M (.methodLink RX2 90 yX0_applyTo) := ⟨List.mem_of_getElem? (i := 282) (by decide +kernel), by decide +kernel⟩
theorem mw_285 : fz_M (.code yX0_applyTo cX0_applyTo 5 none) := ⟨List.mem_of_getElem? (i := 285) (by decide +kernel), by decide +kernel⟩
theorem mw_283 : fz_M (.instanceMethod yX0_applyTo) := ⟨List.mem_of_getElem? (i := 283) (by decide +kernel), by decide +kernel⟩
theorem mw_284 : fz_M (.selects yX0_applyTo.cls yX0_applyTo yX0_applyTo) := ⟨List.mem_of_getElem? (i := 284) (by decide +kernel), by decide +kernel⟩
theorem mw_361 : fz_M (.methodLink RX2 100 yX2_kindOf) := ⟨List.mem_of_getElem? (i := 361) (by decide +kernel), by decide +kernel⟩
theorem mw_259 : fz_M (.methodLink RX2 103 yX2_unlikeSet) := ⟨List.mem_of_getElem? (i := 259) (by decide +kernel), by decide +kernel⟩
theorem mw_305 : fz_M (.methodLink RX2 112 yX2_tellMoves) := ⟨List.mem_of_getElem? (i := 305) (by decide +kernel), by decide +kernel⟩
theorem mw_308 : fz_M (.code yX2_tellMoves cX2_tellMoves 3 (some .int)) := ⟨List.mem_of_getElem? (i := 308) (by decide +kernel), by decide +kernel⟩
theorem mw_307 : fz_M (.instanceMethod yX2_tellMoves) := ⟨List.mem_of_getElem? (i := 307) (by decide +kernel), by decide +kernel⟩
theorem mw_3 : fz_M (.selects yX2_tellMoves.cls yX2_tellMoves yX2_tellMoves) := ⟨List.mem_of_getElem? (i := 3) (by decide +kernel), by decide +kernel⟩
theorem mw_318 : fz_M (.methodLink RX2 115 yX2_sendTiles) := ⟨List.mem_of_getElem? (i := 318) (by decide +kernel), by decide +kernel⟩
theorem mw_321 : fz_M (.code yX2_sendTiles cX2_sendTiles 5 (some .int)) := ⟨List.mem_of_getElem? (i := 321) (by decide +kernel), by decide +kernel⟩
theorem mw_320 : fz_M (.instanceMethod yX2_sendTiles) := ⟨List.mem_of_getElem? (i := 320) (by decide +kernel), by decide +kernel⟩
theorem mw_5 : fz_M (.selects yX2_sendTiles.cls yX2_sendTiles yX2_sendTiles) := ⟨List.mem_of_getElem? (i := 5) (by decide +kernel), by decide +kernel⟩
theorem mw_378 : fz_M (.methodLink RX2 118 yX2_settleChanges) := ⟨List.mem_of_getElem? (i := 378) (by decide +kernel), by decide +kernel⟩
theorem mw_381 : fz_M (.code yX2_settleChanges cX2_settleChanges 2 none) := ⟨List.mem_of_getElem? (i := 381) (by decide +kernel), by decide +kernel⟩
theorem mw_380 : fz_M (.instanceMethod yX2_settleChanges) := ⟨List.mem_of_getElem? (i := 380) (by decide +kernel), by decide +kernel⟩
theorem mw_13 : fz_M (.selects yX2_settleChanges.cls yX2_settleChanges yX2_settleChanges) := ⟨List.mem_of_getElem? (i := 13) (by decide +kernel), by decide +kernel⟩
theorem mw_309 : fz_M (.methodLink RX2 121 yX2_forgetMoves) := ⟨List.mem_of_getElem? (i := 309) (by decide +kernel), by decide +kernel⟩
theorem mw_312 : fz_M (.code yX2_forgetMoves cX2_forgetMoves 3 none) := ⟨List.mem_of_getElem? (i := 312) (by decide +kernel), by decide +kernel⟩
theorem mw_311 : fz_M (.instanceMethod yX2_forgetMoves) := ⟨List.mem_of_getElem? (i := 311) (by decide +kernel), by decide +kernel⟩
theorem mw_4 : fz_M (.selects yX2_forgetMoves.cls yX2_forgetMoves yX2_forgetMoves) := ⟨List.mem_of_getElem? (i := 4) (by decide +kernel), by decide +kernel⟩
theorem mw_322 : fz_M (.methodLink RX2 125 yX2_putInOrder) := ⟨List.mem_of_getElem? (i := 322) (by decide +kernel), by decide +kernel⟩
theorem mw_325 : fz_M (.code yX2_putInOrder cX2_putInOrder 3 (some .int)) := ⟨List.mem_of_getElem? (i := 325) (by decide +kernel), by decide +kernel⟩
theorem mw_324 : fz_M (.instanceMethod yX2_putInOrder) := ⟨List.mem_of_getElem? (i := 324) (by decide +kernel), by decide +kernel⟩
theorem mw_6 : fz_M (.selects yX2_putInOrder.cls yX2_putInOrder yX2_putInOrder) := ⟨List.mem_of_getElem? (i := 6) (by decide +kernel), by decide +kernel⟩
theorem mw_341 : fz_M (.methodLink RX2 129 yX2_sendTile) := ⟨List.mem_of_getElem? (i := 341) (by decide +kernel), by decide +kernel⟩
theorem mw_344 : fz_M (.code yX2_sendTile cX2_sendTile 4 (some .int)) := ⟨List.mem_of_getElem? (i := 344) (by decide +kernel), by decide +kernel⟩
theorem mw_343 : fz_M (.instanceMethod yX2_sendTile) := ⟨List.mem_of_getElem? (i := 343) (by decide +kernel), by decide +kernel⟩
theorem mw_10 : fz_M (.selects yX2_sendTile.cls yX2_sendTile yX2_sendTile) := ⟨List.mem_of_getElem? (i := 10) (by decide +kernel), by decide +kernel⟩
theorem mw_326 : fz_M (.methodLink RX2 132 yX2_worthOf) := ⟨List.mem_of_getElem? (i := 326) (by decide +kernel), by decide +kernel⟩
theorem mw_329 : fz_M (.code yX2_worthOf cX2_worthOf 3 (some .int)) := ⟨List.mem_of_getElem? (i := 329) (by decide +kernel), by decide +kernel⟩
theorem mw_328 : fz_M (.instanceMethod yX2_worthOf) := ⟨List.mem_of_getElem? (i := 328) (by decide +kernel), by decide +kernel⟩
theorem mw_7 : fz_M (.selects yX2_worthOf.cls yX2_worthOf yX2_worthOf) := ⟨List.mem_of_getElem? (i := 7) (by decide +kernel), by decide +kernel⟩
theorem mw_337 : fz_M (.methodLink RX2 135 yX2_insertInOrder) := ⟨List.mem_of_getElem? (i := 337) (by decide +kernel), by decide +kernel⟩
theorem mw_340 : fz_M (.code yX2_insertInOrder cX2_insertInOrder 4 none) := ⟨List.mem_of_getElem? (i := 340) (by decide +kernel), by decide +kernel⟩
theorem mw_339 : fz_M (.instanceMethod yX2_insertInOrder) := ⟨List.mem_of_getElem? (i := 339) (by decide +kernel), by decide +kernel⟩
theorem mw_9 : fz_M (.selects yX2_insertInOrder.cls yX2_insertInOrder yX2_insertInOrder) := ⟨List.mem_of_getElem? (i := 9) (by decide +kernel), by decide +kernel⟩
theorem mw_330 : fz_M (.methodLink RX2 139 yX2_isLookedAt) := ⟨List.mem_of_getElem? (i := 330) (by decide +kernel), by decide +kernel⟩
theorem mw_333 : fz_M (.code yX2_isLookedAt cX2_isLookedAt 4 (some .boolean)) := ⟨List.mem_of_getElem? (i := 333) (by decide +kernel), by decide +kernel⟩
theorem mw_332 : fz_M (.instanceMethod yX2_isLookedAt) := ⟨List.mem_of_getElem? (i := 332) (by decide +kernel), by decide +kernel⟩
theorem mw_8 : fz_M (.selects yX2_isLookedAt.cls yX2_isLookedAt yX2_isLookedAt) := ⟨List.mem_of_getElem? (i := 8) (by decide +kernel), by decide +kernel⟩
theorem mw_345 : fz_M (.methodLink RX2 148 yX1_holds) := ⟨List.mem_of_getElem? (i := 345) (by decide +kernel), by decide +kernel⟩
theorem mw_348 : fz_M (.code yX1_holds cX1_holds 2 (some .boolean)) := ⟨List.mem_of_getElem? (i := 348) (by decide +kernel), by decide +kernel⟩
theorem mw_346 : fz_M (.instanceMethod yX1_holds) := ⟨List.mem_of_getElem? (i := 346) (by decide +kernel), by decide +kernel⟩
theorem mw_347 : fz_M (.selects yX1_holds.cls yX1_holds yX1_holds) := ⟨List.mem_of_getElem? (i := 347) (by decide +kernel), by decide +kernel⟩
theorem mw_353 : fz_M (.methodLink RX2 151 yX2_sendPicture) := ⟨List.mem_of_getElem? (i := 353) (by decide +kernel), by decide +kernel⟩
theorem mw_356 : fz_M (.code yX2_sendPicture cX2_sendPicture 5 (some .int)) := ⟨List.mem_of_getElem? (i := 356) (by decide +kernel), by decide +kernel⟩
theorem mw_355 : fz_M (.instanceMethod yX2_sendPicture) := ⟨List.mem_of_getElem? (i := 355) (by decide +kernel), by decide +kernel⟩
theorem mw_11 : fz_M (.selects yX2_sendPicture.cls yX2_sendPicture yX2_sendPicture) := ⟨List.mem_of_getElem? (i := 11) (by decide +kernel), by decide +kernel⟩
theorem mw_371 : fz_M (.methodLink RX2 155 yX2_sendRoughly) := ⟨List.mem_of_getElem? (i := 371) (by decide +kernel), by decide +kernel⟩
theorem mw_374 : fz_M (.code yX2_sendRoughly cX2_sendRoughly 4 (some .int)) := ⟨List.mem_of_getElem? (i := 374) (by decide +kernel), by decide +kernel⟩
theorem mw_373 : fz_M (.instanceMethod yX2_sendRoughly) := ⟨List.mem_of_getElem? (i := 373) (by decide +kernel), by decide +kernel⟩
theorem mw_12 : fz_M (.selects yX2_sendRoughly.cls yX2_sendRoughly yX2_sendRoughly) := ⟨List.mem_of_getElem? (i := 12) (by decide +kernel), by decide +kernel⟩
theorem mw_357 : fz_M (.methodLink RX2 161 yX1_meet) := ⟨List.mem_of_getElem? (i := 357) (by decide +kernel), by decide +kernel⟩
theorem mw_360 : fz_M (.code yX1_meet cX1_meet 4 none) := ⟨List.mem_of_getElem? (i := 360) (by decide +kernel), by decide +kernel⟩
theorem mw_358 : fz_M (.instanceMethod yX1_meet) := ⟨List.mem_of_getElem? (i := 358) (by decide +kernel), by decide +kernel⟩
theorem mw_359 : fz_M (.selects yX1_meet.cls yX1_meet yX1_meet) := ⟨List.mem_of_getElem? (i := 359) (by decide +kernel), by decide +kernel⟩
theorem mw_30 : fz_M (.methodLink RL 84 yX3_init) := ⟨List.mem_of_getElem? (i := 30) (by decide +kernel), by decide +kernel⟩
theorem mw_32 : fz_M (.code yX3_init cX3_init 1 none) := ⟨List.mem_of_getElem? (i := 32) (by decide +kernel), by decide +kernel⟩
theorem mw_31 : fz_M (.instanceMethod yX3_init) := ⟨List.mem_of_getElem? (i := 31) (by decide +kernel), by decide +kernel⟩
theorem mw_14 : fz_M (.initialized "FarScreenLaw") := ⟨List.mem_of_getElem? (i := 14) (by decide +kernel), by decide +kernel⟩
theorem mw_424 : fz_M (.methodLink RL 10 yL_like) := ⟨List.mem_of_getElem? (i := 424) (by decide +kernel), by decide +kernel⟩
theorem mw_426 : fz_M (.code yL_like cL_like 5 none) := ⟨List.mem_of_getElem? (i := 426) (by decide +kernel), by decide +kernel⟩
theorem mw_425 : fz_M (.static yL_like) := ⟨List.mem_of_getElem? (i := 425) (by decide +kernel), by decide +kernel⟩
theorem mw_427 : fz_M (.methodLink RL 16 yL_shift) := ⟨List.mem_of_getElem? (i := 427) (by decide +kernel), by decide +kernel⟩
theorem mw_429 : fz_M (.code yL_shift cL_shift 8 none) := ⟨List.mem_of_getElem? (i := 429) (by decide +kernel), by decide +kernel⟩
theorem mw_428 : fz_M (.static yL_shift) := ⟨List.mem_of_getElem? (i := 428) (by decide +kernel), by decide +kernel⟩
theorem mw_433 : fz_M (.methodLink RL 20 yL_meet) := ⟨List.mem_of_getElem? (i := 433) (by decide +kernel), by decide +kernel⟩
theorem mw_435 : fz_M (.code yL_meet cL_meet 5 (some .int)) := ⟨List.mem_of_getElem? (i := 435) (by decide +kernel), by decide +kernel⟩
theorem mw_434 : fz_M (.static yL_meet) := ⟨List.mem_of_getElem? (i := 434) (by decide +kernel), by decide +kernel⟩
theorem mw_436 : fz_M (.methodLink RL 24 yL_kind) := ⟨List.mem_of_getElem? (i := 436) (by decide +kernel), by decide +kernel⟩
theorem mw_438 : fz_M (.code yL_kind cL_kind 5 (some .int)) := ⟨List.mem_of_getElem? (i := 438) (by decide +kernel), by decide +kernel⟩
theorem mw_437 : fz_M (.static yL_kind) := ⟨List.mem_of_getElem? (i := 437) (by decide +kernel), by decide +kernel⟩
theorem mw_439 : fz_M (.methodLink RL 71 yL_refused) := ⟨List.mem_of_getElem? (i := 439) (by decide +kernel), by decide +kernel⟩
theorem mw_412 : fz_M (.methodLink RL 85 yL_cell) := ⟨List.mem_of_getElem? (i := 412) (by decide +kernel), by decide +kernel⟩
theorem mw_414 : fz_M (.code yL_cell cL_cell 2 (some .int)) := ⟨List.mem_of_getElem? (i := 414) (by decide +kernel), by decide +kernel⟩
theorem mw_413 : fz_M (.static yL_cell) := ⟨List.mem_of_getElem? (i := 413) (by decide +kernel), by decide +kernel⟩
theorem mw_417 : fz_M (.methodLink RL 89 yL_low) := ⟨List.mem_of_getElem? (i := 417) (by decide +kernel), by decide +kernel⟩
theorem mw_419 : fz_M (.code yL_low cL_low 2 (some .int)) := ⟨List.mem_of_getElem? (i := 419) (by decide +kernel), by decide +kernel⟩
theorem mw_418 : fz_M (.static yL_low) := ⟨List.mem_of_getElem? (i := 418) (by decide +kernel), by decide +kernel⟩
theorem mw_421 : fz_M (.methodLink RL 92 yL_draw) := ⟨List.mem_of_getElem? (i := 421) (by decide +kernel), by decide +kernel⟩
theorem mw_423 : fz_M (.code yL_draw cL_draw 7 none) := ⟨List.mem_of_getElem? (i := 423) (by decide +kernel), by decide +kernel⟩
theorem mw_422 : fz_M (.static yL_draw) := ⟨List.mem_of_getElem? (i := 422) (by decide +kernel), by decide +kernel⟩
theorem mw_430 : fz_M (.methodLink RL 103 yL_step) := ⟨List.mem_of_getElem? (i := 430) (by decide +kernel), by decide +kernel⟩
theorem mw_432 : fz_M (.code yL_step cL_step 16 (some .int)) := ⟨List.mem_of_getElem? (i := 432) (by decide +kernel), by decide +kernel⟩
theorem mw_431 : fz_M (.static yL_step) := ⟨List.mem_of_getElem? (i := 431) (by decide +kernel), by decide +kernel⟩
theorem mw_453 : fz_M (.methodLink RL 109 yL_same) := ⟨List.mem_of_getElem? (i := 453) (by decide +kernel), by decide +kernel⟩
theorem mw_455 : fz_M (.code yL_same cL_same 13 (some .boolean)) := ⟨List.mem_of_getElem? (i := 455) (by decide +kernel), by decide +kernel⟩
theorem mw_454 : fz_M (.static yL_same) := ⟨List.mem_of_getElem? (i := 454) (by decide +kernel), by decide +kernel⟩
theorem mw_444 : fz_M (.methodLink RL 28 yX3_known) := ⟨List.mem_of_getElem? (i := 444) (by decide +kernel), by decide +kernel⟩
theorem mw_447 : fz_M (.code yX3_known cX3_known 2 (some .int)) := ⟨List.mem_of_getElem? (i := 447) (by decide +kernel), by decide +kernel⟩
theorem mw_445 : fz_M (.instanceMethod yX3_known) := ⟨List.mem_of_getElem? (i := 445) (by decide +kernel), by decide +kernel⟩
theorem mw_446 : fz_M (.selects yX3_known.cls yX3_known yX3_known) := ⟨List.mem_of_getElem? (i := 446) (by decide +kernel), by decide +kernel⟩
theorem mw_449 : fz_M (.methodLink RL 34 yX3_near) := ⟨List.mem_of_getElem? (i := 449) (by decide +kernel), by decide +kernel⟩
theorem mw_452 : fz_M (.code yX3_near cX3_near 3 (some .int)) := ⟨List.mem_of_getElem? (i := 452) (by decide +kernel), by decide +kernel⟩
theorem mw_450 : fz_M (.instanceMethod yX3_near) := ⟨List.mem_of_getElem? (i := 450) (by decide +kernel), by decide +kernel⟩
theorem mw_451 : fz_M (.selects yX3_near.cls yX3_near yX3_near) := ⟨List.mem_of_getElem? (i := 451) (by decide +kernel), by decide +kernel⟩
theorem mw_269 : fz_M (.methodLink RL 38 yX3_move) := ⟨List.mem_of_getElem? (i := 269) (by decide +kernel), by decide +kernel⟩
theorem mw_272 : fz_M (.code yX3_move cX3_move 7 (some .int)) := ⟨List.mem_of_getElem? (i := 272) (by decide +kernel), by decide +kernel⟩
theorem mw_270 : fz_M (.instanceMethod yX3_move) := ⟨List.mem_of_getElem? (i := 270) (by decide +kernel), by decide +kernel⟩
theorem mw_271 : fz_M (.selects yX3_move.cls yX3_move yX3_move) := ⟨List.mem_of_getElem? (i := 271) (by decide +kernel), by decide +kernel⟩
theorem mw_456 : fz_M (.methodLink RL 46 yX3_far) := ⟨List.mem_of_getElem? (i := 456) (by decide +kernel), by decide +kernel⟩
theorem mw_459 : fz_M (.code yX3_far cX3_far 3 (some .int)) := ⟨List.mem_of_getElem? (i := 459) (by decide +kernel), by decide +kernel⟩
theorem mw_457 : fz_M (.instanceMethod yX3_far) := ⟨List.mem_of_getElem? (i := 457) (by decide +kernel), by decide +kernel⟩
theorem mw_458 : fz_M (.selects yX3_far.cls yX3_far yX3_far) := ⟨List.mem_of_getElem? (i := 458) (by decide +kernel), by decide +kernel⟩
theorem mw_460 : fz_M (.methodLink RL 49 yX3_since) := ⟨List.mem_of_getElem? (i := 460) (by decide +kernel), by decide +kernel⟩
theorem mw_463 : fz_M (.code yX3_since cX3_since 3 (some .int)) := ⟨List.mem_of_getElem? (i := 463) (by decide +kernel), by decide +kernel⟩
theorem mw_461 : fz_M (.instanceMethod yX3_since) := ⟨List.mem_of_getElem? (i := 461) (by decide +kernel), by decide +kernel⟩
theorem mw_462 : fz_M (.selects yX3_since.cls yX3_since yX3_since) := ⟨List.mem_of_getElem? (i := 462) (by decide +kernel), by decide +kernel⟩
theorem mw_464 : fz_M (.methodLink RL 52 yX3_kind) := ⟨List.mem_of_getElem? (i := 464) (by decide +kernel), by decide +kernel⟩
theorem mw_467 : fz_M (.code yX3_kind cX3_kind 3 (some .int)) := ⟨List.mem_of_getElem? (i := 467) (by decide +kernel), by decide +kernel⟩
theorem mw_465 : fz_M (.instanceMethod yX3_kind) := ⟨List.mem_of_getElem? (i := 465) (by decide +kernel), by decide +kernel⟩
theorem mw_466 : fz_M (.selects yX3_kind.cls yX3_kind yX3_kind) := ⟨List.mem_of_getElem? (i := 466) (by decide +kernel), by decide +kernel⟩
theorem mw_469 : fz_M (.methodLink RL 54 yX3_sent) := ⟨List.mem_of_getElem? (i := 469) (by decide +kernel), by decide +kernel⟩
theorem mw_472 : fz_M (.code yX3_sent cX3_sent 2 (some .int)) := ⟨List.mem_of_getElem? (i := 472) (by decide +kernel), by decide +kernel⟩
theorem mw_470 : fz_M (.instanceMethod yX3_sent) := ⟨List.mem_of_getElem? (i := 470) (by decide +kernel), by decide +kernel⟩
theorem mw_471 : fz_M (.selects yX3_sent.cls yX3_sent yX3_sent) := ⟨List.mem_of_getElem? (i := 471) (by decide +kernel), by decide +kernel⟩
theorem mw_382 : fz_M (.methodLink RL 57 yX3_unlike) := ⟨List.mem_of_getElem? (i := 382) (by decide +kernel), by decide +kernel⟩
theorem mw_385 : fz_M (.code yX3_unlike cX3_unlike 1 (some .long)) := ⟨List.mem_of_getElem? (i := 385) (by decide +kernel), by decide +kernel⟩
theorem mw_383 : fz_M (.instanceMethod yX3_unlike) := ⟨List.mem_of_getElem? (i := 383) (by decide +kernel), by decide +kernel⟩
theorem mw_384 : fz_M (.selects yX3_unlike.cls yX3_unlike yX3_unlike) := ⟨List.mem_of_getElem? (i := 384) (by decide +kernel), by decide +kernel⟩
theorem mw_474 : fz_M (.methodLink RL 61 yX3_rough) := ⟨List.mem_of_getElem? (i := 474) (by decide +kernel), by decide +kernel⟩
theorem mw_477 : fz_M (.code yX3_rough cX3_rough 1 (some .int)) := ⟨List.mem_of_getElem? (i := 477) (by decide +kernel), by decide +kernel⟩
theorem mw_475 : fz_M (.instanceMethod yX3_rough) := ⟨List.mem_of_getElem? (i := 475) (by decide +kernel), by decide +kernel⟩
theorem mw_476 : fz_M (.selects yX3_rough.cls yX3_rough yX3_rough) := ⟨List.mem_of_getElem? (i := 476) (by decide +kernel), by decide +kernel⟩
theorem mw_482 : fz_M (.methodLink RL 65 yX3_anew) := ⟨List.mem_of_getElem? (i := 482) (by decide +kernel), by decide +kernel⟩
theorem mw_485 : fz_M (.code yX3_anew cX3_anew 3 (some .int)) := ⟨List.mem_of_getElem? (i := 485) (by decide +kernel), by decide +kernel⟩
theorem mw_483 : fz_M (.instanceMethod yX3_anew) := ⟨List.mem_of_getElem? (i := 483) (by decide +kernel), by decide +kernel⟩
theorem mw_484 : fz_M (.selects yX3_anew.cls yX3_anew yX3_anew) := ⟨List.mem_of_getElem? (i := 484) (by decide +kernel), by decide +kernel⟩
theorem mw_487 : fz_M (.methodLink RL 68 yX3_knownPictures) := ⟨List.mem_of_getElem? (i := 487) (by decide +kernel), by decide +kernel⟩
theorem mw_490 : fz_M (.code yX3_knownPictures cX3_knownPictures 1 (some .int)) := ⟨List.mem_of_getElem? (i := 490) (by decide +kernel), by decide +kernel⟩
theorem mw_488 : fz_M (.instanceMethod yX3_knownPictures) := ⟨List.mem_of_getElem? (i := 488) (by decide +kernel), by decide +kernel⟩
theorem mw_489 : fz_M (.selects yX3_knownPictures.cls yX3_knownPictures yX3_knownPictures) := ⟨List.mem_of_getElem? (i := 489) (by decide +kernel), by decide +kernel⟩
theorem mw_387 : fz_M (.methodLink RL 75 yX3_waiting) := ⟨List.mem_of_getElem? (i := 387) (by decide +kernel), by decide +kernel⟩
theorem mw_390 : fz_M (.code yX3_waiting cX3_waiting 1 (some .int)) := ⟨List.mem_of_getElem? (i := 390) (by decide +kernel), by decide +kernel⟩
theorem mw_388 : fz_M (.instanceMethod yX3_waiting) := ⟨List.mem_of_getElem? (i := 388) (by decide +kernel), by decide +kernel⟩
theorem mw_389 : fz_M (.selects yX3_waiting.cls yX3_waiting yX3_waiting) := ⟨List.mem_of_getElem? (i := 389) (by decide +kernel), by decide +kernel⟩
theorem mw_491 : fz_M (.methodLink RL 78 yX3_time) := ⟨List.mem_of_getElem? (i := 491) (by decide +kernel), by decide +kernel⟩
theorem mw_494 : fz_M (.code yX3_time cX3_time 1 (some .int)) := ⟨List.mem_of_getElem? (i := 494) (by decide +kernel), by decide +kernel⟩
theorem mw_492 : fz_M (.instanceMethod yX3_time) := ⟨List.mem_of_getElem? (i := 492) (by decide +kernel), by decide +kernel⟩
theorem mw_493 : fz_M (.selects yX3_time.cls yX3_time yX3_time) := ⟨List.mem_of_getElem? (i := 493) (by decide +kernel), by decide +kernel⟩
theorem mw_495 : fz_M (.methodLink RL 81 yX3_used) := ⟨List.mem_of_getElem? (i := 495) (by decide +kernel), by decide +kernel⟩
theorem mw_498 : fz_M (.code yX3_used cX3_used 1 (some .int)) := ⟨List.mem_of_getElem? (i := 498) (by decide +kernel), by decide +kernel⟩
theorem mw_496 : fz_M (.instanceMethod yX3_used) := ⟨List.mem_of_getElem? (i := 496) (by decide +kernel), by decide +kernel⟩
theorem mw_497 : fz_M (.selects yX3_used.cls yX3_used yX3_used) := ⟨List.mem_of_getElem? (i := 497) (by decide +kernel), by decide +kernel⟩
theorem mw_143 : fz_M (.methodLink RL 96 yX3_fill) := ⟨List.mem_of_getElem? (i := 143) (by decide +kernel), by decide +kernel⟩
theorem mw_146 : fz_M (.code yX3_fill cX3_fill 6 (some .int)) := ⟨List.mem_of_getElem? (i := 146) (by decide +kernel), by decide +kernel⟩
theorem mw_144 : fz_M (.instanceMethod yX3_fill) := ⟨List.mem_of_getElem? (i := 144) (by decide +kernel), by decide +kernel⟩
theorem mw_145 : fz_M (.selects yX3_fill.cls yX3_fill yX3_fill) := ⟨List.mem_of_getElem? (i := 145) (by decide +kernel), by decide +kernel⟩
theorem mw_288 : fz_M (.methodLink RL 100 yX3_look) := ⟨List.mem_of_getElem? (i := 288) (by decide +kernel), by decide +kernel⟩
theorem mw_291 : fz_M (.code yX3_look cX3_look 4 (some .int)) := ⟨List.mem_of_getElem? (i := 291) (by decide +kernel), by decide +kernel⟩
theorem mw_289 : fz_M (.instanceMethod yX3_look) := ⟨List.mem_of_getElem? (i := 289) (by decide +kernel), by decide +kernel⟩
theorem mw_290 : fz_M (.selects yX3_look.cls yX3_look yX3_look) := ⟨List.mem_of_getElem? (i := 290) (by decide +kernel), by decide +kernel⟩
theorem mw_293 : fz_M (.methodLink RL 107 yX3_step) := ⟨List.mem_of_getElem? (i := 293) (by decide +kernel), by decide +kernel⟩
theorem mw_296 : fz_M (.code yX3_step cX3_step 2 (some .int)) := ⟨List.mem_of_getElem? (i := 296) (by decide +kernel), by decide +kernel⟩
theorem mw_294 : fz_M (.instanceMethod yX3_step) := ⟨List.mem_of_getElem? (i := 294) (by decide +kernel), by decide +kernel⟩
theorem mw_295 : fz_M (.selects yX3_step.cls yX3_step yX3_step) := ⟨List.mem_of_getElem? (i := 295) (by decide +kernel), by decide +kernel⟩
theorem mw_391 : fz_M (.methodLink RL 113 yX3_stepsToGo) := ⟨List.mem_of_getElem? (i := 391) (by decide +kernel), by decide +kernel⟩
theorem mw_394 : fz_M (.code yX3_stepsToGo cX3_stepsToGo 5 (some .int)) := ⟨List.mem_of_getElem? (i := 394) (by decide +kernel), by decide +kernel⟩
theorem mw_392 : fz_M (.instanceMethod yX3_stepsToGo) := ⟨List.mem_of_getElem? (i := 392) (by decide +kernel), by decide +kernel⟩
theorem mw_393 : fz_M (.selects yX3_stepsToGo.cls yX3_stepsToGo yX3_stepsToGo) := ⟨List.mem_of_getElem? (i := 393) (by decide +kernel), by decide +kernel⟩
section FZL
variable {p : Program} {l : Launch} {e : Env} {R : Room} {s : State} {m : MethodId} {args : Array Value} {below : List Frame} {meth : Method} {c : Code} {H : Heap} {locs : List Loc} {cells slots : Nat} {Q : State → Prop}
variable {cc : ByteArray} {n : Nat} {ret : Option FieldType} {g : GG} {A : Nat → Prop} {ws : va_W} {pc : Nat} {ls : Array Slot} {rest : List Value} {a : Nat}
theorem fz_pn {own : String} (X : fz_X p s m meth c own cc n ret g A) (hW : fz_W g A s ws H locs) {C host : String} {T : u_T} {N ci index : Nat} (hin : ∀ w ∈ u_ws C T N, fz_M w) (hc : classes[ci]? = some (C, T, N)) (ty0 : Nat → FieldType) (hty : ∀ k, k < N → parseFieldDescriptor (T k).2.2.1 = some (ty0 k)) (hnm : ∀ a, a < N → ∀ b, b < N → a ≠ b → (T a).2.1 ≠ (T b).2.1) (k : Nat) (hk : k < N) (hlink : fz_M (.fieldLinkNest own index C (T k).2.1 (T k).2.2.1 host)) (hT : (T k).1 = C) (hfin : (T k).2.2.2 = false) {v : Value} (hnr : narrow (ty0 k) v = v) (hfit : fits (ty0 k) v = true) (q0 : Nat) {fs : List Value} (he : ws[q0]? = some (a, .inr (ci, fs))) (hl : k < fs.length) (hdg : decode cc pc = .ok (.putfield index, 3))
    (kk : ∀ (H1 : Heap) (locs1 : List Loc), fz_W g A s (ws.set q0 (a, .inr (ci, fs.set k v))) H1 locs1 → W p l e R s m args below meth c H1 locs1 cells slots Q (F0 m (pc + 3) ls rest)) : W p l e R s m args below meth c H locs cells slots Q (F0 m pc ls (v :: .ref a :: rest)) :=
  va_putN (D := g.1) (Ts := u_ws C T N) X.1 X.2.1 (fun w hw => X.2.2.2.2.2.2.1.use (hin w hw) args) (fun _ h => h) ty0 hty hnm X.2.2.2.2.1 X.2.2.2.2.2.2.1.1 hW.1 hW.2.1 hW.2.2 q0 he hc k hk (X.2.2.2.2.2.2.1.use hlink args) (fun _ h9 => by rw [hT] at h9; exact h9) hfin (hty k hk) hnr hfit hl hdg (fun H1 locs1 h1 h2 h3 => kk H1 locs1 ⟨h1, h2, h3⟩)
theorem gf_X3_10 (X : fz_X p s m meth c RX3 cc n ret g A) (hW : fz_W g A s ws H locs) (q0 : Nat) {fs : List Value} (he : ws[q0]? = some (a, .inr (3, fs))) {v : Value} (hv : fs[0]? = some v) (hdg : decode cc pc = .ok (.getfield 10, 3)) (kk : W p l e R s m args below meth c H locs cells slots Q (F0 m (pc + 3) ls (v :: rest))) : W p l e R s m args below meth c H locs cells slots Q (F0 m pc ls (.ref a :: rest)) := fz_gf X hW inX3 rfl 0 (by decide) mw_136 rfl q0 he hv hdg kk
theorem gf_X3_16 (X : fz_X p s m meth c RX3 cc n ret g A) (hW : fz_W g A s ws H locs) (q0 : Nat) {fs : List Value} (he : ws[q0]? = some (a, .inr (3, fs))) {v : Value} (hv : fs[1]? = some v) (hdg : decode cc pc = .ok (.getfield 16, 3)) (kk : W p l e R s m args below meth c H locs cells slots Q (F0 m (pc + 3) ls (v :: rest))) : W p l e R s m args below meth c H locs cells slots Q (F0 m pc ls (.ref a :: rest)) := fz_gf X hW inX3 rfl 1 (by decide) mw_137 rfl q0 he hv hdg kk
theorem gf_X3_44 (X : fz_X p s m meth c RX3 cc n ret g A) (hW : fz_W g A s ws H locs) (q0 : Nat) {fs : List Value} (he : ws[q0]? = some (a, .inr (2, fs))) {v : Value} (hv : fs[8]? = some v) (hdg : decode cc pc = .ok (.getfield 44, 3)) (kk : W p l e R s m args below meth c H locs cells slots Q (F0 m (pc + 3) ls (v :: rest))) : W p l e R s m args below meth c H locs cells slots Q (F0 m pc ls (.ref a :: rest)) := fz_gn X hW inX2 rfl 8 (by decide) mw_96 rfl q0 he hv hdg kk
theorem gf_X3_52 (X : fz_X p s m meth c RX3 cc n ret g A) (hW : fz_W g A s ws H locs) (q0 : Nat) {fs : List Value} (he : ws[q0]? = some (a, .inr (2, fs))) {v : Value} (hv : fs[13]? = some v) (hdg : decode cc pc = .ok (.getfield 52, 3)) (kk : W p l e R s m args below meth c H locs cells slots Q (F0 m (pc + 3) ls (v :: rest))) : W p l e R s m args below meth c H locs cells slots Q (F0 m pc ls (.ref a :: rest)) := fz_gn X hW inX2 rfl 13 (by decide) mw_106 rfl q0 he hv hdg kk
theorem gf_X3_67 (X : fz_X p s m meth c RX3 cc n ret g A) (hW : fz_W g A s ws H locs) (q0 : Nat) {fs : List Value} (he : ws[q0]? = some (a, .inr (2, fs))) {v : Value} (hv : fs[12]? = some v) (hdg : decode cc pc = .ok (.getfield 67, 3)) (kk : W p l e R s m args below meth c H locs cells slots Q (F0 m (pc + 3) ls (v :: rest))) : W p l e R s m args below meth c H locs cells slots Q (F0 m pc ls (.ref a :: rest)) := fz_gn X hW inX2 rfl 12 (by decide) mw_104 rfl q0 he hv hdg kk
theorem gf_X3_70 (X : fz_X p s m meth c RX3 cc n ret g A) (hW : fz_W g A s ws H locs) (q0 : Nat) {fs : List Value} (he : ws[q0]? = some (a, .inr (2, fs))) {v : Value} (hv : fs[0]? = some v) (hdg : decode cc pc = .ok (.getfield 70, 3)) (kk : W p l e R s m args below meth c H locs cells slots Q (F0 m (pc + 3) ls (v :: rest))) : W p l e R s m args below meth c H locs cells slots Q (F0 m pc ls (.ref a :: rest)) := fz_gn X hW inX2 rfl 0 (by decide) mw_85 rfl q0 he hv hdg kk
theorem gf_X3_74 (X : fz_X p s m meth c RX3 cc n ret g A) (hW : fz_W g A s ws H locs) (q0 : Nat) {fs : List Value} (he : ws[q0]? = some (a, .inr (2, fs))) {v : Value} (hv : fs[1]? = some v) (hdg : decode cc pc = .ok (.getfield 74, 3)) (kk : W p l e R s m args below meth c H locs cells slots Q (F0 m (pc + 3) ls (v :: rest))) : W p l e R s m args below meth c H locs cells slots Q (F0 m pc ls (.ref a :: rest)) := fz_gn X hW inX2 rfl 1 (by decide) mw_87 rfl q0 he hv hdg kk
theorem gf_X3_80 (X : fz_X p s m meth c RX3 cc n ret g A) (hW : fz_W g A s ws H locs) (q0 : Nat) {fs : List Value} (he : ws[q0]? = some (a, .inr (2, fs))) {v : Value} (hv : fs[2]? = some v) (hdg : decode cc pc = .ok (.getfield 80, 3)) (kk : W p l e R s m args below meth c H locs cells slots Q (F0 m (pc + 3) ls (v :: rest))) : W p l e R s m args below meth c H locs cells slots Q (F0 m pc ls (.ref a :: rest)) := fz_gn X hW inX2 rfl 2 (by decide) mw_89 rfl q0 he hv hdg kk
theorem gf_X3_90 (X : fz_X p s m meth c RX3 cc n ret g A) (hW : fz_W g A s ws H locs) (q0 : Nat) {fs : List Value} (he : ws[q0]? = some (a, .inr (2, fs))) {v : Value} (hv : fs[9]? = some v) (hdg : decode cc pc = .ok (.getfield 90, 3)) (kk : W p l e R s m args below meth c H locs cells slots Q (F0 m (pc + 3) ls (v :: rest))) : W p l e R s m args below meth c H locs cells slots Q (F0 m pc ls (.ref a :: rest)) := fz_gn X hW inX2 rfl 9 (by decide) mw_98 rfl q0 he hv hdg kk
theorem gf_X3_94 (X : fz_X p s m meth c RX3 cc n ret g A) (hW : fz_W g A s ws H locs) (q0 : Nat) {fs : List Value} (he : ws[q0]? = some (a, .inr (1, fs))) {v : Value} (hv : fs[1]? = some v) (hdg : decode cc pc = .ok (.getfield 94, 3)) (kk : W p l e R s m args below meth c H locs cells slots Q (F0 m (pc + 3) ls (v :: rest))) : W p l e R s m args below meth c H locs cells slots Q (F0 m pc ls (.ref a :: rest)) := fz_gn X hW inX1 rfl 1 (by decide) mw_53 rfl q0 he hv hdg kk
theorem gf_X3_104 (X : fz_X p s m meth c RX3 cc n ret g A) (hW : fz_W g A s ws H locs) (q0 : Nat) {fs : List Value} (he : ws[q0]? = some (a, .inr (1, fs))) {v : Value} (hv : fs[0]? = some v) (hdg : decode cc pc = .ok (.getfield 104, 3)) (kk : W p l e R s m args below meth c H locs cells slots Q (F0 m (pc + 3) ls (v :: rest))) : W p l e R s m args below meth c H locs cells slots Q (F0 m pc ls (.ref a :: rest)) := fz_gn X hW inX1 rfl 0 (by decide) mw_51 rfl q0 he hv hdg kk
theorem gf_X3_109 (X : fz_X p s m meth c RX3 cc n ret g A) (hW : fz_W g A s ws H locs) (q0 : Nat) {fs : List Value} (he : ws[q0]? = some (a, .inr (2, fs))) {v : Value} (hv : fs[10]? = some v) (hdg : decode cc pc = .ok (.getfield 109, 3)) (kk : W p l e R s m args below meth c H locs cells slots Q (F0 m (pc + 3) ls (v :: rest))) : W p l e R s m args below meth c H locs cells slots Q (F0 m pc ls (.ref a :: rest)) := fz_gn X hW inX2 rfl 10 (by decide) mw_100 rfl q0 he hv hdg kk
theorem gf_X3_112 (X : fz_X p s m meth c RX3 cc n ret g A) (hW : fz_W g A s ws H locs) (q0 : Nat) {fs : List Value} (he : ws[q0]? = some (a, .inr (2, fs))) {v : Value} (hv : fs[11]? = some v) (hdg : decode cc pc = .ok (.getfield 112, 3)) (kk : W p l e R s m args below meth c H locs cells slots Q (F0 m (pc + 3) ls (v :: rest))) : W p l e R s m args below meth c H locs cells slots Q (F0 m pc ls (.ref a :: rest)) := fz_gn X hW inX2 rfl 11 (by decide) mw_102 rfl q0 he hv hdg kk
theorem lk_X3_19 : fz_LS RX3 19 yX3_checkBlock cX3_checkBlock 4 none 4 := ⟨⟨mw_15, mw_149, by decide +kernel, by decide +kernel, by decide +kernel⟩, mw_147, mw_148⟩
theorem lk_X3_48 : fz_LS RX3 48 yX3_checkTile cX3_checkTile 2 none 2 := ⟨⟨mw_15, mw_152, by decide +kernel, by decide +kernel, by decide +kernel⟩, mw_150, mw_151⟩
theorem lk_X3_55 : fz_LS RX3 55 yX3_tileAt cX3_tileAt 2 (some .int) 2 := ⟨⟨mw_15, mw_246, by decide +kernel, by decide +kernel, by decide +kernel⟩, mw_292, mw_245⟩
theorem lk_X3_59 : fz_LS RX3 59 yX3_checkBudget cX3_checkBudget 1 none 1 := ⟨⟨mw_15, mw_299, by decide +kernel, by decide +kernel, by decide +kernel⟩, mw_297, mw_298⟩
theorem lk_X3_115 : fz_LS RX3 115 yX3_wholeCost cX3_wholeCost 1 (some .int) 1 := ⟨⟨mw_15, mw_377, by decide +kernel, by decide +kernel, by decide +kernel⟩, mw_486, mw_376⟩
theorem lk_X3_30 : fz_LV RX3 30 yX2_paint cX2_paint 8 none 5 := ⟨⟨mw_16, mw_240, by decide +kernel, by decide +kernel, by decide +kernel⟩, mw_237, mw_238, mw_239⟩
theorem lk_X3_34 : fz_LV RX3 34 yX2_countUnlike cX2_countUnlike 1 (some .int) 0 := ⟨⟨mw_16, mw_258, by decide +kernel, by decide +kernel, by decide +kernel⟩, mw_255, mw_256, mw_257⟩
theorem lk_X3_40 : fz_LV RX3 40 yX2_shift cX2_shift 8 none 6 := ⟨⟨mw_16, mw_277, by decide +kernel, by decide +kernel, by decide +kernel⟩, mw_274, mw_275, mw_276⟩
theorem lk_X3_63 : fz_LV RX3 63 yX2_passStep cX2_passStep 3 (some .int) 1 := ⟨⟨mw_16, mw_304, by decide +kernel, by decide +kernel, by decide +kernel⟩, mw_301, mw_302, mw_303⟩
theorem lk_X3_77 : fz_LV RX3 77 yX2_kindOf cX2_kindOf 2 (some .int) 1 := ⟨⟨mw_16, mw_364, by decide +kernel, by decide +kernel, by decide +kernel⟩, mw_468, mw_362, mw_363⟩
theorem lk_X3_83 : fz_LV RX3 83 yX2_unlikeSet cX2_unlikeSet 4 (some .long) 0 := ⟨⟨mw_16, mw_262, by decide +kernel, by decide +kernel, by decide +kernel⟩, mw_386, mw_260, mw_261⟩
theorem lk_X3_87 : fz_LV RX3 87 yX2_countRough cX2_countRough 3 (some .int) 0 := ⟨⟨mw_16, mw_481, by decide +kernel, by decide +kernel, by decide +kernel⟩, mw_478, mw_479, mw_480⟩
theorem lk_X3_118 : fz_LV RX3 118 yX2_copyFrom cX2_copyFrom 3 none 1 := ⟨⟨mw_16, mw_398, by decide +kernel, by decide +kernel, by decide +kernel⟩, mw_395, mw_396, mw_397⟩
theorem lk_X3_122 : fz_LV RX3 122 yX2_isAllSent cX2_isAllSent 1 (some .boolean) 0 := ⟨⟨mw_16, mw_407, by decide +kernel, by decide +kernel, by decide +kernel⟩, mw_404, mw_405, mw_406⟩
theorem lk_X3_126 : fz_LV RX3 126 yX2_hasFilm cX2_hasFilm 2 (some .boolean) 0 := ⟨⟨mw_16, mw_411, by decide +kernel, by decide +kernel, by decide +kernel⟩, mw_408, mw_409, mw_410⟩
theorem pf_X3_52 (X : fz_X p s m meth c RX3 cc n ret g A) (hW : fz_W g A s ws H locs) (q0 : Nat) {fs : List Value} (he : ws[q0]? = some (a, .inr (2, fs))) {x : Int32} (hl : 13 < fs.length) (hdg : decode cc pc = .ok (.putfield 52, 3)) (kk : ∀ (H1 : Heap) (locs1 : List Loc), fz_W g A s (ws.set q0 (a, .inr (2, fs.set 13 (.int x)))) H1 locs1 → W p l e R s m args below meth c H1 locs1 cells slots Q (F0 m (pc + 3) ls rest)) : W p l e R s m args below meth c H locs cells slots Q (F0 m pc ls (.int x :: .ref a :: rest)) := fz_pn X hW inX2 rfl tyX2 tyX2_ok nmX2 13 (by decide) mw_106 rfl rfl rfl rfl q0 he hl hdg kk
theorem gf_X0_9 (X : fz_X p s m meth c RX0 cc n ret g A) (hW : fz_W g A s ws H locs) (q0 : Nat) {fs : List Value} (he : ws[q0]? = some (a, .inr (0, fs))) {v : Value} (hv : fs[0]? = some v) (hdg : decode cc pc = .ok (.getfield 9, 3)) (kk : W p l e R s m args below meth c H locs cells slots Q (F0 m (pc + 3) ls (v :: rest))) : W p l e R s m args below meth c H locs cells slots Q (F0 m pc ls (.ref a :: rest)) := fz_gf X hW inX0 rfl 0 (by decide) mw_65 rfl q0 he hv hdg kk
theorem gf_X0_15 (X : fz_X p s m meth c RX0 cc n ret g A) (hW : fz_W g A s ws H locs) (q0 : Nat) {fs : List Value} (he : ws[q0]? = some (a, .inr (0, fs))) {v : Value} (hv : fs[1]? = some v) (hdg : decode cc pc = .ok (.getfield 15, 3)) (kk : W p l e R s m args below meth c H locs cells slots Q (F0 m (pc + 3) ls (v :: rest))) : W p l e R s m args below meth c H locs cells slots Q (F0 m pc ls (.ref a :: rest)) := fz_gf X hW inX0 rfl 1 (by decide) mw_66 rfl q0 he hv hdg kk
theorem gf_X0_18 (X : fz_X p s m meth c RX0 cc n ret g A) (hW : fz_W g A s ws H locs) (q0 : Nat) {fs : List Value} (he : ws[q0]? = some (a, .inr (0, fs))) {v : Value} (hv : fs[2]? = some v) (hdg : decode cc pc = .ok (.getfield 18, 3)) (kk : W p l e R s m args below meth c H locs cells slots Q (F0 m (pc + 3) ls (v :: rest))) : W p l e R s m args below meth c H locs cells slots Q (F0 m pc ls (.ref a :: rest)) := fz_gf X hW inX0 rfl 2 (by decide) mw_67 rfl q0 he hv hdg kk
theorem gf_X0_21 (X : fz_X p s m meth c RX0 cc n ret g A) (hW : fz_W g A s ws H locs) (q0 : Nat) {fs : List Value} (he : ws[q0]? = some (a, .inr (0, fs))) {v : Value} (hv : fs[3]? = some v) (hdg : decode cc pc = .ok (.getfield 21, 3)) (kk : W p l e R s m args below meth c H locs cells slots Q (F0 m (pc + 3) ls (v :: rest))) : W p l e R s m args below meth c H locs cells slots Q (F0 m pc ls (.ref a :: rest)) := fz_gf X hW inX0 rfl 3 (by decide) mw_68 rfl q0 he hv hdg kk
theorem gf_X0_24 (X : fz_X p s m meth c RX0 cc n ret g A) (hW : fz_W g A s ws H locs) (q0 : Nat) {fs : List Value} (he : ws[q0]? = some (a, .inr (0, fs))) {v : Value} (hv : fs[4]? = some v) (hdg : decode cc pc = .ok (.getfield 24, 3)) (kk : W p l e R s m args below meth c H locs cells slots Q (F0 m (pc + 3) ls (v :: rest))) : W p l e R s m args below meth c H locs cells slots Q (F0 m pc ls (.ref a :: rest)) := fz_gf X hW inX0 rfl 4 (by decide) mw_69 rfl q0 he hv hdg kk
theorem gf_X0_27 (X : fz_X p s m meth c RX0 cc n ret g A) (hW : fz_W g A s ws H locs) (q0 : Nat) {fs : List Value} (he : ws[q0]? = some (a, .inr (0, fs))) {v : Value} (hv : fs[5]? = some v) (hdg : decode cc pc = .ok (.getfield 27, 3)) (kk : W p l e R s m args below meth c H locs cells slots Q (F0 m (pc + 3) ls (v :: rest))) : W p l e R s m args below meth c H locs cells slots Q (F0 m pc ls (.ref a :: rest)) := fz_gf X hW inX0 rfl 5 (by decide) mw_70 rfl q0 he hv hdg kk
theorem lk_X0_40 : fz_LN RX0 40 yX3_tileAt cX3_tileAt 2 (some .int) 2 := ⟨⟨mw_15, mw_246, by decide +kernel, by decide +kernel, by decide +kernel⟩, ⟨_, mw_287⟩, mw_245⟩
theorem lk_X0_30 : fz_LV RX0 30 yX0_set cX0_set 7 none 6 := ⟨⟨mw_18, mw_281, by decide +kernel, by decide +kernel, by decide +kernel⟩, mw_317, mw_279, mw_280⟩
theorem pf_X0_9 (X : fz_X p s m meth c RX0 cc n ret g A) (hW : fz_W g A s ws H locs) (q0 : Nat) {fs : List Value} (he : ws[q0]? = some (a, .inr (0, fs))) {x : Int32} (hl : 0 < fs.length) (hdg : decode cc pc = .ok (.putfield 9, 3)) (kk : ∀ (H1 : Heap) (locs1 : List Loc), fz_W g A s (ws.set q0 (a, .inr (0, fs.set 0 (.int x)))) H1 locs1 → W p l e R s m args below meth c H1 locs1 cells slots Q (F0 m (pc + 3) ls rest)) : W p l e R s m args below meth c H locs cells slots Q (F0 m pc ls (.int x :: .ref a :: rest)) := fz_pf X hW inX0 rfl tyX0 tyX0_ok nmX0 0 (by decide) mw_65 rfl rfl rfl rfl q0 he hl hdg kk
theorem pf_X0_15 (X : fz_X p s m meth c RX0 cc n ret g A) (hW : fz_W g A s ws H locs) (q0 : Nat) {fs : List Value} (he : ws[q0]? = some (a, .inr (0, fs))) {x : Int32} (hl : 1 < fs.length) (hdg : decode cc pc = .ok (.putfield 15, 3)) (kk : ∀ (H1 : Heap) (locs1 : List Loc), fz_W g A s (ws.set q0 (a, .inr (0, fs.set 1 (.int x)))) H1 locs1 → W p l e R s m args below meth c H1 locs1 cells slots Q (F0 m (pc + 3) ls rest)) : W p l e R s m args below meth c H locs cells slots Q (F0 m pc ls (.int x :: .ref a :: rest)) := fz_pf X hW inX0 rfl tyX0 tyX0_ok nmX0 1 (by decide) mw_66 rfl rfl rfl rfl q0 he hl hdg kk
theorem pf_X0_18 (X : fz_X p s m meth c RX0 cc n ret g A) (hW : fz_W g A s ws H locs) (q0 : Nat) {fs : List Value} (he : ws[q0]? = some (a, .inr (0, fs))) {x : Int32} (hl : 2 < fs.length) (hdg : decode cc pc = .ok (.putfield 18, 3)) (kk : ∀ (H1 : Heap) (locs1 : List Loc), fz_W g A s (ws.set q0 (a, .inr (0, fs.set 2 (.int x)))) H1 locs1 → W p l e R s m args below meth c H1 locs1 cells slots Q (F0 m (pc + 3) ls rest)) : W p l e R s m args below meth c H locs cells slots Q (F0 m pc ls (.int x :: .ref a :: rest)) := fz_pf X hW inX0 rfl tyX0 tyX0_ok nmX0 2 (by decide) mw_67 rfl rfl rfl rfl q0 he hl hdg kk
theorem pf_X0_21 (X : fz_X p s m meth c RX0 cc n ret g A) (hW : fz_W g A s ws H locs) (q0 : Nat) {fs : List Value} (he : ws[q0]? = some (a, .inr (0, fs))) {x : Int32} (hl : 3 < fs.length) (hdg : decode cc pc = .ok (.putfield 21, 3)) (kk : ∀ (H1 : Heap) (locs1 : List Loc), fz_W g A s (ws.set q0 (a, .inr (0, fs.set 3 (.int x)))) H1 locs1 → W p l e R s m args below meth c H1 locs1 cells slots Q (F0 m (pc + 3) ls rest)) : W p l e R s m args below meth c H locs cells slots Q (F0 m pc ls (.int x :: .ref a :: rest)) := fz_pf X hW inX0 rfl tyX0 tyX0_ok nmX0 3 (by decide) mw_68 rfl rfl rfl rfl q0 he hl hdg kk
theorem pf_X0_24 (X : fz_X p s m meth c RX0 cc n ret g A) (hW : fz_W g A s ws H locs) (q0 : Nat) {fs : List Value} (he : ws[q0]? = some (a, .inr (0, fs))) {x : Int32} (hl : 4 < fs.length) (hdg : decode cc pc = .ok (.putfield 24, 3)) (kk : ∀ (H1 : Heap) (locs1 : List Loc), fz_W g A s (ws.set q0 (a, .inr (0, fs.set 4 (.int x)))) H1 locs1 → W p l e R s m args below meth c H1 locs1 cells slots Q (F0 m (pc + 3) ls rest)) : W p l e R s m args below meth c H locs cells slots Q (F0 m pc ls (.int x :: .ref a :: rest)) := fz_pf X hW inX0 rfl tyX0 tyX0_ok nmX0 4 (by decide) mw_69 rfl rfl rfl rfl q0 he hl hdg kk
theorem pf_X0_27 (X : fz_X p s m meth c RX0 cc n ret g A) (hW : fz_W g A s ws H locs) (q0 : Nat) {fs : List Value} (he : ws[q0]? = some (a, .inr (0, fs))) {x : Int32} (hl : 5 < fs.length) (hdg : decode cc pc = .ok (.putfield 27, 3)) (kk : ∀ (H1 : Heap) (locs1 : List Loc), fz_W g A s (ws.set q0 (a, .inr (0, fs.set 5 (.int x)))) H1 locs1 → W p l e R s m args below meth c H1 locs1 cells slots Q (F0 m (pc + 3) ls rest)) : W p l e R s m args below meth c H locs cells slots Q (F0 m pc ls (.int x :: .ref a :: rest)) := fz_pf X hW inX0 rfl tyX0 tyX0_ok nmX0 5 (by decide) mw_70 rfl rfl rfl rfl q0 he hl hdg kk
theorem gf_X1_9 (X : fz_X p s m meth c RX1 cc n ret g A) (hW : fz_W g A s ws H locs) (q0 : Nat) {fs : List Value} (he : ws[q0]? = some (a, .inr (1, fs))) {v : Value} (hv : fs[0]? = some v) (hdg : decode cc pc = .ok (.getfield 9, 3)) (kk : W p l e R s m args below meth c H locs cells slots Q (F0 m (pc + 3) ls (v :: rest))) : W p l e R s m args below meth c H locs cells slots Q (F0 m pc ls (.ref a :: rest)) := fz_gf X hW inX1 rfl 0 (by decide) mw_50 rfl q0 he hv hdg kk
theorem gf_X1_15 (X : fz_X p s m meth c RX1 cc n ret g A) (hW : fz_W g A s ws H locs) (q0 : Nat) {fs : List Value} (he : ws[q0]? = some (a, .inr (1, fs))) {v : Value} (hv : fs[1]? = some v) (hdg : decode cc pc = .ok (.getfield 15, 3)) (kk : W p l e R s m args below meth c H locs cells slots Q (F0 m (pc + 3) ls (v :: rest))) : W p l e R s m args below meth c H locs cells slots Q (F0 m pc ls (.ref a :: rest)) := fz_gf X hW inX1 rfl 1 (by decide) mw_52 rfl q0 he hv hdg kk
theorem lk_X1_25 : fz_LV RX1 25 yX1_placeOf cX1_placeOf 3 (some .int) 1 := ⟨⟨mw_17, mw_352, by decide +kernel, by decide +kernel, by decide +kernel⟩, mw_349, mw_350, mw_351⟩
theorem pf_X1_15 (X : fz_X p s m meth c RX1 cc n ret g A) (hW : fz_W g A s ws H locs) (q0 : Nat) {fs : List Value} (he : ws[q0]? = some (a, .inr (1, fs))) {x : Int32} (hl : 1 < fs.length) (hdg : decode cc pc = .ok (.putfield 15, 3)) (kk : ∀ (H1 : Heap) (locs1 : List Loc), fz_W g A s (ws.set q0 (a, .inr (1, fs.set 1 (.int x)))) H1 locs1 → W p l e R s m args below meth c H1 locs1 cells slots Q (F0 m (pc + 3) ls rest)) : W p l e R s m args below meth c H locs cells slots Q (F0 m pc ls (.int x :: .ref a :: rest)) := fz_pf X hW inX1 rfl tyX1 tyX1_ok nmX1 1 (by decide) mw_52 rfl rfl rfl rfl q0 he hl hdg kk
theorem gf_X2_9 (X : fz_X p s m meth c RX2 cc n ret g A) (hW : fz_W g A s ws H locs) (q0 : Nat) {fs : List Value} (he : ws[q0]? = some (a, .inr (2, fs))) {v : Value} (hv : fs[0]? = some v) (hdg : decode cc pc = .ok (.getfield 9, 3)) (kk : W p l e R s m args below meth c H locs cells slots Q (F0 m (pc + 3) ls (v :: rest))) : W p l e R s m args below meth c H locs cells slots Q (F0 m pc ls (.ref a :: rest)) := fz_gf X hW inX2 rfl 0 (by decide) mw_84 rfl q0 he hv hdg kk
theorem gf_X2_15 (X : fz_X p s m meth c RX2 cc n ret g A) (hW : fz_W g A s ws H locs) (q0 : Nat) {fs : List Value} (he : ws[q0]? = some (a, .inr (2, fs))) {v : Value} (hv : fs[1]? = some v) (hdg : decode cc pc = .ok (.getfield 15, 3)) (kk : W p l e R s m args below meth c H locs cells slots Q (F0 m (pc + 3) ls (v :: rest))) : W p l e R s m args below meth c H locs cells slots Q (F0 m pc ls (.ref a :: rest)) := fz_gf X hW inX2 rfl 1 (by decide) mw_86 rfl q0 he hv hdg kk
theorem gf_X2_18 (X : fz_X p s m meth c RX2 cc n ret g A) (hW : fz_W g A s ws H locs) (q0 : Nat) {fs : List Value} (he : ws[q0]? = some (a, .inr (2, fs))) {v : Value} (hv : fs[2]? = some v) (hdg : decode cc pc = .ok (.getfield 18, 3)) (kk : W p l e R s m args below meth c H locs cells slots Q (F0 m (pc + 3) ls (v :: rest))) : W p l e R s m args below meth c H locs cells slots Q (F0 m pc ls (.ref a :: rest)) := fz_gf X hW inX2 rfl 2 (by decide) mw_88 rfl q0 he hv hdg kk
theorem gf_X2_21 (X : fz_X p s m meth c RX2 cc n ret g A) (hW : fz_W g A s ws H locs) (q0 : Nat) {fs : List Value} (he : ws[q0]? = some (a, .inr (2, fs))) {v : Value} (hv : fs[3]? = some v) (hdg : decode cc pc = .ok (.getfield 21, 3)) (kk : W p l e R s m args below meth c H locs cells slots Q (F0 m (pc + 3) ls (v :: rest))) : W p l e R s m args below meth c H locs cells slots Q (F0 m pc ls (.ref a :: rest)) := fz_gf X hW inX2 rfl 3 (by decide) mw_90 rfl q0 he hv hdg kk
theorem gf_X2_24 (X : fz_X p s m meth c RX2 cc n ret g A) (hW : fz_W g A s ws H locs) (q0 : Nat) {fs : List Value} (he : ws[q0]? = some (a, .inr (2, fs))) {v : Value} (hv : fs[4]? = some v) (hdg : decode cc pc = .ok (.getfield 24, 3)) (kk : W p l e R s m args below meth c H locs cells slots Q (F0 m (pc + 3) ls (v :: rest))) : W p l e R s m args below meth c H locs cells slots Q (F0 m pc ls (.ref a :: rest)) := fz_gf X hW inX2 rfl 4 (by decide) mw_91 rfl q0 he hv hdg kk
theorem gf_X2_27 (X : fz_X p s m meth c RX2 cc n ret g A) (hW : fz_W g A s ws H locs) (q0 : Nat) {fs : List Value} (he : ws[q0]? = some (a, .inr (2, fs))) {v : Value} (hv : fs[5]? = some v) (hdg : decode cc pc = .ok (.getfield 27, 3)) (kk : W p l e R s m args below meth c H locs cells slots Q (F0 m (pc + 3) ls (v :: rest))) : W p l e R s m args below meth c H locs cells slots Q (F0 m pc ls (.ref a :: rest)) := fz_gf X hW inX2 rfl 5 (by decide) mw_92 rfl q0 he hv hdg kk
theorem gf_X2_30 (X : fz_X p s m meth c RX2 cc n ret g A) (hW : fz_W g A s ws H locs) (q0 : Nat) {fs : List Value} (he : ws[q0]? = some (a, .inr (2, fs))) {v : Value} (hv : fs[6]? = some v) (hdg : decode cc pc = .ok (.getfield 30, 3)) (kk : W p l e R s m args below meth c H locs cells slots Q (F0 m (pc + 3) ls (v :: rest))) : W p l e R s m args below meth c H locs cells slots Q (F0 m pc ls (.ref a :: rest)) := fz_gf X hW inX2 rfl 6 (by decide) mw_93 rfl q0 he hv hdg kk
theorem gf_X2_35 (X : fz_X p s m meth c RX2 cc n ret g A) (hW : fz_W g A s ws H locs) (q0 : Nat) {fs : List Value} (he : ws[q0]? = some (a, .inr (2, fs))) {v : Value} (hv : fs[7]? = some v) (hdg : decode cc pc = .ok (.getfield 35, 3)) (kk : W p l e R s m args below meth c H locs cells slots Q (F0 m (pc + 3) ls (v :: rest))) : W p l e R s m args below meth c H locs cells slots Q (F0 m pc ls (.ref a :: rest)) := fz_gf X hW inX2 rfl 7 (by decide) mw_94 rfl q0 he hv hdg kk
theorem gf_X2_39 (X : fz_X p s m meth c RX2 cc n ret g A) (hW : fz_W g A s ws H locs) (q0 : Nat) {fs : List Value} (he : ws[q0]? = some (a, .inr (2, fs))) {v : Value} (hv : fs[8]? = some v) (hdg : decode cc pc = .ok (.getfield 39, 3)) (kk : W p l e R s m args below meth c H locs cells slots Q (F0 m (pc + 3) ls (v :: rest))) : W p l e R s m args below meth c H locs cells slots Q (F0 m pc ls (.ref a :: rest)) := fz_gf X hW inX2 rfl 8 (by decide) mw_95 rfl q0 he hv hdg kk
theorem gf_X2_46 (X : fz_X p s m meth c RX2 cc n ret g A) (hW : fz_W g A s ws H locs) (q0 : Nat) {fs : List Value} (he : ws[q0]? = some (a, .inr (2, fs))) {v : Value} (hv : fs[9]? = some v) (hdg : decode cc pc = .ok (.getfield 46, 3)) (kk : W p l e R s m args below meth c H locs cells slots Q (F0 m (pc + 3) ls (v :: rest))) : W p l e R s m args below meth c H locs cells slots Q (F0 m pc ls (.ref a :: rest)) := fz_gf X hW inX2 rfl 9 (by decide) mw_97 rfl q0 he hv hdg kk
theorem gf_X2_50 (X : fz_X p s m meth c RX2 cc n ret g A) (hW : fz_W g A s ws H locs) (q0 : Nat) {fs : List Value} (he : ws[q0]? = some (a, .inr (2, fs))) {v : Value} (hv : fs[10]? = some v) (hdg : decode cc pc = .ok (.getfield 50, 3)) (kk : W p l e R s m args below meth c H locs cells slots Q (F0 m (pc + 3) ls (v :: rest))) : W p l e R s m args below meth c H locs cells slots Q (F0 m pc ls (.ref a :: rest)) := fz_gf X hW inX2 rfl 10 (by decide) mw_99 rfl q0 he hv hdg kk
theorem gf_X2_53 (X : fz_X p s m meth c RX2 cc n ret g A) (hW : fz_W g A s ws H locs) (q0 : Nat) {fs : List Value} (he : ws[q0]? = some (a, .inr (2, fs))) {v : Value} (hv : fs[11]? = some v) (hdg : decode cc pc = .ok (.getfield 53, 3)) (kk : W p l e R s m args below meth c H locs cells slots Q (F0 m (pc + 3) ls (v :: rest))) : W p l e R s m args below meth c H locs cells slots Q (F0 m pc ls (.ref a :: rest)) := fz_gf X hW inX2 rfl 11 (by decide) mw_101 rfl q0 he hv hdg kk
theorem gf_X2_56 (X : fz_X p s m meth c RX2 cc n ret g A) (hW : fz_W g A s ws H locs) (q0 : Nat) {fs : List Value} (he : ws[q0]? = some (a, .inr (2, fs))) {v : Value} (hv : fs[12]? = some v) (hdg : decode cc pc = .ok (.getfield 56, 3)) (kk : W p l e R s m args below meth c H locs cells slots Q (F0 m (pc + 3) ls (v :: rest))) : W p l e R s m args below meth c H locs cells slots Q (F0 m pc ls (.ref a :: rest)) := fz_gf X hW inX2 rfl 12 (by decide) mw_103 rfl q0 he hv hdg kk
theorem gf_X2_59 (X : fz_X p s m meth c RX2 cc n ret g A) (hW : fz_W g A s ws H locs) (q0 : Nat) {fs : List Value} (he : ws[q0]? = some (a, .inr (2, fs))) {v : Value} (hv : fs[13]? = some v) (hdg : decode cc pc = .ok (.getfield 59, 3)) (kk : W p l e R s m args below meth c H locs cells slots Q (F0 m (pc + 3) ls (v :: rest))) : W p l e R s m args below meth c H locs cells slots Q (F0 m pc ls (.ref a :: rest)) := fz_gf X hW inX2 rfl 13 (by decide) mw_105 rfl q0 he hv hdg kk
theorem lk_X2_76 : fz_LN RX2 76 yX3_tileAt cX3_tileAt 2 (some .int) 2 := ⟨⟨mw_15, mw_246, by decide +kernel, by decide +kernel, by decide +kernel⟩, ⟨_, mw_244⟩, mw_245⟩
theorem lk_X2_94 : fz_LS RX2 94 yJ6_bitCount_0f7a4 cJ6_bitCount_0f7a4 1 (some .int) 1 := ⟨⟨mw_27, mw_367, by decide +kernel, by decide +kernel, by decide +kernel⟩, mw_365, mw_366⟩
theorem lk_X2_107 : fz_LS RX2 107 yJ13_bitCount_95d88 cJ13_bitCount_95d88 2 (some .int) 1 := ⟨⟨mw_25, mw_265, by decide +kernel, by decide +kernel, by decide +kernel⟩, mw_263, mw_264⟩
theorem lk_X2_143 : fz_LS RX2 143 yJ9_abs_0f7a4 cJ9_abs_0f7a4 1 (some .int) 1 := ⟨⟨mw_26, mw_336, by decide +kernel, by decide +kernel, by decide +kernel⟩, mw_334, mw_335⟩
theorem lk_X2_158 : fz_LN RX2 158 yX3_wholeCost cX3_wholeCost 1 (some .int) 1 := ⟨⟨mw_15, mw_377, by decide +kernel, by decide +kernel, by decide +kernel⟩, ⟨_, mw_375⟩, mw_376⟩
theorem lk_X2_69 : fz_LV RX2 69 yX0_copyFrom cX0_copyFrom 2 none 1 := ⟨⟨mw_18, mw_316, by decide +kernel, by decide +kernel, by decide +kernel⟩, mw_313, mw_314, mw_315⟩
theorem lk_X2_73 : fz_LV RX2 73 yX1_copyFrom cX1_copyFrom 2 none 1 := ⟨⟨mw_17, mw_402, by decide +kernel, by decide +kernel, by decide +kernel⟩, mw_399, mw_400, mw_401⟩
theorem lk_X2_80 : fz_LV RX2 80 yX2_noteChanges cX2_noteChanges 2 none 0 := ⟨⟨mw_16, mw_250, by decide +kernel, by decide +kernel, by decide +kernel⟩, mw_247, mw_249, mw_1⟩
theorem lk_X2_83 : fz_LV RX2 83 yX2_noteUnlike cX2_noteUnlike 2 none 0 := ⟨⟨mw_16, mw_254, by decide +kernel, by decide +kernel, by decide +kernel⟩, mw_251, mw_253, mw_2⟩
theorem lk_X2_86 : fz_LV RX2 86 yX0_set cX0_set 7 none 6 := ⟨⟨mw_18, mw_281, by decide +kernel, by decide +kernel, by decide +kernel⟩, mw_278, mw_279, mw_280⟩
theorem lk_X2_90 : fz_LV RX2 90 yX0_applyTo cX0_applyTo 5 none 2 := ⟨⟨mw_18, mw_285, by decide +kernel, by decide +kernel, by decide +kernel⟩, mw_282, mw_283, mw_284⟩
theorem lk_X2_100 : fz_LV RX2 100 yX2_kindOf cX2_kindOf 2 (some .int) 1 := ⟨⟨mw_16, mw_364, by decide +kernel, by decide +kernel, by decide +kernel⟩, mw_361, mw_362, mw_363⟩
theorem lk_X2_103 : fz_LV RX2 103 yX2_unlikeSet cX2_unlikeSet 4 (some .long) 0 := ⟨⟨mw_16, mw_262, by decide +kernel, by decide +kernel, by decide +kernel⟩, mw_259, mw_260, mw_261⟩
theorem lk_X2_112 : fz_LV RX2 112 yX2_tellMoves cX2_tellMoves 3 (some .int) 1 := ⟨⟨mw_16, mw_308, by decide +kernel, by decide +kernel, by decide +kernel⟩, mw_305, mw_307, mw_3⟩
theorem lk_X2_115 : fz_LV RX2 115 yX2_sendTiles cX2_sendTiles 5 (some .int) 1 := ⟨⟨mw_16, mw_321, by decide +kernel, by decide +kernel, by decide +kernel⟩, mw_318, mw_320, mw_5⟩
theorem lk_X2_118 : fz_LV RX2 118 yX2_settleChanges cX2_settleChanges 2 none 0 := ⟨⟨mw_16, mw_381, by decide +kernel, by decide +kernel, by decide +kernel⟩, mw_378, mw_380, mw_13⟩
theorem lk_X2_121 : fz_LV RX2 121 yX2_forgetMoves cX2_forgetMoves 3 none 1 := ⟨⟨mw_16, mw_312, by decide +kernel, by decide +kernel, by decide +kernel⟩, mw_309, mw_311, mw_4⟩
theorem lk_X2_125 : fz_LV RX2 125 yX2_putInOrder cX2_putInOrder 3 (some .int) 0 := ⟨⟨mw_16, mw_325, by decide +kernel, by decide +kernel, by decide +kernel⟩, mw_322, mw_324, mw_6⟩
theorem lk_X2_129 : fz_LV RX2 129 yX2_sendTile cX2_sendTile 4 (some .int) 2 := ⟨⟨mw_16, mw_344, by decide +kernel, by decide +kernel, by decide +kernel⟩, mw_341, mw_343, mw_10⟩
theorem lk_X2_132 : fz_LV RX2 132 yX2_worthOf cX2_worthOf 3 (some .int) 1 := ⟨⟨mw_16, mw_329, by decide +kernel, by decide +kernel, by decide +kernel⟩, mw_326, mw_328, mw_7⟩
theorem lk_X2_135 : fz_LV RX2 135 yX2_insertInOrder cX2_insertInOrder 4 none 2 := ⟨⟨mw_16, mw_340, by decide +kernel, by decide +kernel, by decide +kernel⟩, mw_337, mw_339, mw_9⟩
theorem lk_X2_139 : fz_LV RX2 139 yX2_isLookedAt cX2_isLookedAt 4 (some .boolean) 1 := ⟨⟨mw_16, mw_333, by decide +kernel, by decide +kernel, by decide +kernel⟩, mw_330, mw_332, mw_8⟩
theorem lk_X2_148 : fz_LV RX2 148 yX1_holds cX1_holds 2 (some .boolean) 1 := ⟨⟨mw_17, mw_348, by decide +kernel, by decide +kernel, by decide +kernel⟩, mw_345, mw_346, mw_347⟩
theorem lk_X2_151 : fz_LV RX2 151 yX2_sendPicture cX2_sendPicture 5 (some .int) 4 := ⟨⟨mw_16, mw_356, by decide +kernel, by decide +kernel, by decide +kernel⟩, mw_353, mw_355, mw_11⟩
theorem lk_X2_155 : fz_LV RX2 155 yX2_sendRoughly cX2_sendRoughly 4 (some .int) 2 := ⟨⟨mw_16, mw_374, by decide +kernel, by decide +kernel, by decide +kernel⟩, mw_371, mw_373, mw_12⟩
theorem lk_X2_161 : fz_LV RX2 161 yX1_meet cX1_meet 4 none 1 := ⟨⟨mw_17, mw_360, by decide +kernel, by decide +kernel, by decide +kernel⟩, mw_357, mw_358, mw_359⟩
theorem pf_X2_39 (X : fz_X p s m meth c RX2 cc n ret g A) (hW : fz_W g A s ws H locs) (q0 : Nat) {fs : List Value} (he : ws[q0]? = some (a, .inr (2, fs))) {x : Int32} (hl : 8 < fs.length) (hdg : decode cc pc = .ok (.putfield 39, 3)) (kk : ∀ (H1 : Heap) (locs1 : List Loc), fz_W g A s (ws.set q0 (a, .inr (2, fs.set 8 (.int x)))) H1 locs1 → W p l e R s m args below meth c H1 locs1 cells slots Q (F0 m (pc + 3) ls rest)) : W p l e R s m args below meth c H locs cells slots Q (F0 m pc ls (.int x :: .ref a :: rest)) := fz_pf X hW inX2 rfl tyX2 tyX2_ok nmX2 8 (by decide) mw_95 rfl rfl rfl rfl q0 he hl hdg kk
theorem pf_X2_53 (X : fz_X p s m meth c RX2 cc n ret g A) (hW : fz_W g A s ws H locs) (q0 : Nat) {fs : List Value} (he : ws[q0]? = some (a, .inr (2, fs))) {x : Int32} (hl : 11 < fs.length) (hdg : decode cc pc = .ok (.putfield 53, 3)) (kk : ∀ (H1 : Heap) (locs1 : List Loc), fz_W g A s (ws.set q0 (a, .inr (2, fs.set 11 (.int x)))) H1 locs1 → W p l e R s m args below meth c H1 locs1 cells slots Q (F0 m (pc + 3) ls rest)) : W p l e R s m args below meth c H locs cells slots Q (F0 m pc ls (.int x :: .ref a :: rest)) := fz_pf X hW inX2 rfl tyX2 tyX2_ok nmX2 11 (by decide) mw_101 rfl rfl rfl rfl q0 he hl hdg kk
theorem pf_X2_56 (X : fz_X p s m meth c RX2 cc n ret g A) (hW : fz_W g A s ws H locs) (q0 : Nat) {fs : List Value} (he : ws[q0]? = some (a, .inr (2, fs))) {x : Int32} (hl : 12 < fs.length) (hdg : decode cc pc = .ok (.putfield 56, 3)) (kk : ∀ (H1 : Heap) (locs1 : List Loc), fz_W g A s (ws.set q0 (a, .inr (2, fs.set 12 (.int x)))) H1 locs1 → W p l e R s m args below meth c H1 locs1 cells slots Q (F0 m (pc + 3) ls rest)) : W p l e R s m args below meth c H locs cells slots Q (F0 m pc ls (.int x :: .ref a :: rest)) := fz_pf X hW inX2 rfl tyX2 tyX2_ok nmX2 12 (by decide) mw_103 rfl rfl rfl rfl q0 he hl hdg kk
theorem pf_X2_59 (X : fz_X p s m meth c RX2 cc n ret g A) (hW : fz_W g A s ws H locs) (q0 : Nat) {fs : List Value} (he : ws[q0]? = some (a, .inr (2, fs))) {x : Int32} (hl : 13 < fs.length) (hdg : decode cc pc = .ok (.putfield 59, 3)) (kk : ∀ (H1 : Heap) (locs1 : List Loc), fz_W g A s (ws.set q0 (a, .inr (2, fs.set 13 (.int x)))) H1 locs1 → W p l e R s m args below meth c H1 locs1 cells slots Q (F0 m (pc + 3) ls rest)) : W p l e R s m args below meth c H locs cells slots Q (F0 m pc ls (.int x :: .ref a :: rest)) := fz_pf X hW inX2 rfl tyX2 tyX2_ok nmX2 13 (by decide) mw_105 rfl rfl rfl rfl q0 he hl hdg kk
theorem lk_L_10 : fz_LS RL 10 yL_like cL_like 5 none 5 := ⟨⟨mw_14, mw_426, by decide +kernel, by decide +kernel, by decide +kernel⟩, mw_424, mw_425⟩
theorem lk_L_16 : fz_LS RL 16 yL_shift cL_shift 8 none 3 := ⟨⟨mw_14, mw_429, by decide +kernel, by decide +kernel, by decide +kernel⟩, mw_427, mw_428⟩
theorem lk_L_20 : fz_LS RL 20 yL_meet cL_meet 5 (some .int) 3 := ⟨⟨mw_14, mw_435, by decide +kernel, by decide +kernel, by decide +kernel⟩, mw_433, mw_434⟩
theorem lk_L_24 : fz_LS RL 24 yL_kind cL_kind 5 (some .int) 3 := ⟨⟨mw_14, mw_438, by decide +kernel, by decide +kernel, by decide +kernel⟩, mw_436, mw_437⟩
theorem lk_L_85 : fz_LS RL 85 yL_cell cL_cell 2 (some .int) 2 := ⟨⟨mw_14, mw_414, by decide +kernel, by decide +kernel, by decide +kernel⟩, mw_412, mw_413⟩
theorem lk_L_89 : fz_LS RL 89 yL_low cL_low 2 (some .int) 2 := ⟨⟨mw_14, mw_419, by decide +kernel, by decide +kernel, by decide +kernel⟩, mw_417, mw_418⟩
theorem lk_L_92 : fz_LS RL 92 yL_draw cL_draw 7 none 7 := ⟨⟨mw_14, mw_423, by decide +kernel, by decide +kernel, by decide +kernel⟩, mw_421, mw_422⟩
theorem lk_L_103 : fz_LS RL 103 yL_step cL_step 16 (some .int) 8 := ⟨⟨mw_14, mw_432, by decide +kernel, by decide +kernel, by decide +kernel⟩, mw_430, mw_431⟩
theorem lk_L_109 : fz_LS RL 109 yL_same cL_same 13 (some .boolean) 7 := ⟨⟨mw_14, mw_455, by decide +kernel, by decide +kernel, by decide +kernel⟩, mw_453, mw_454⟩
theorem lk_L_28 : fz_LV RL 28 yX3_known cX3_known 2 (some .int) 1 := ⟨⟨mw_15, mw_447, by decide +kernel, by decide +kernel, by decide +kernel⟩, mw_444, mw_445, mw_446⟩
theorem lk_L_34 : fz_LV RL 34 yX3_near cX3_near 3 (some .int) 2 := ⟨⟨mw_15, mw_452, by decide +kernel, by decide +kernel, by decide +kernel⟩, mw_449, mw_450, mw_451⟩
theorem lk_L_38 : fz_LV RL 38 yX3_move cX3_move 7 (some .int) 6 := ⟨⟨mw_15, mw_272, by decide +kernel, by decide +kernel, by decide +kernel⟩, mw_269, mw_270, mw_271⟩
theorem lk_L_46 : fz_LV RL 46 yX3_far cX3_far 3 (some .int) 2 := ⟨⟨mw_15, mw_459, by decide +kernel, by decide +kernel, by decide +kernel⟩, mw_456, mw_457, mw_458⟩
theorem lk_L_49 : fz_LV RL 49 yX3_since cX3_since 3 (some .int) 2 := ⟨⟨mw_15, mw_463, by decide +kernel, by decide +kernel, by decide +kernel⟩, mw_460, mw_461, mw_462⟩
theorem lk_L_52 : fz_LV RL 52 yX3_kind cX3_kind 3 (some .int) 2 := ⟨⟨mw_15, mw_467, by decide +kernel, by decide +kernel, by decide +kernel⟩, mw_464, mw_465, mw_466⟩
theorem lk_L_54 : fz_LV RL 54 yX3_sent cX3_sent 2 (some .int) 1 := ⟨⟨mw_15, mw_472, by decide +kernel, by decide +kernel, by decide +kernel⟩, mw_469, mw_470, mw_471⟩
theorem lk_L_57 : fz_LV RL 57 yX3_unlike cX3_unlike 1 (some .long) 0 := ⟨⟨mw_15, mw_385, by decide +kernel, by decide +kernel, by decide +kernel⟩, mw_382, mw_383, mw_384⟩
theorem lk_L_61 : fz_LV RL 61 yX3_rough cX3_rough 1 (some .int) 0 := ⟨⟨mw_15, mw_477, by decide +kernel, by decide +kernel, by decide +kernel⟩, mw_474, mw_475, mw_476⟩
theorem lk_L_65 : fz_LV RL 65 yX3_anew cX3_anew 3 (some .int) 0 := ⟨⟨mw_15, mw_485, by decide +kernel, by decide +kernel, by decide +kernel⟩, mw_482, mw_483, mw_484⟩
theorem lk_L_68 : fz_LV RL 68 yX3_knownPictures cX3_knownPictures 1 (some .int) 0 := ⟨⟨mw_15, mw_490, by decide +kernel, by decide +kernel, by decide +kernel⟩, mw_487, mw_488, mw_489⟩
theorem lk_L_75 : fz_LV RL 75 yX3_waiting cX3_waiting 1 (some .int) 0 := ⟨⟨mw_15, mw_390, by decide +kernel, by decide +kernel, by decide +kernel⟩, mw_387, mw_388, mw_389⟩
theorem lk_L_78 : fz_LV RL 78 yX3_time cX3_time 1 (some .int) 0 := ⟨⟨mw_15, mw_494, by decide +kernel, by decide +kernel, by decide +kernel⟩, mw_491, mw_492, mw_493⟩
theorem lk_L_81 : fz_LV RL 81 yX3_used cX3_used 1 (some .int) 0 := ⟨⟨mw_15, mw_498, by decide +kernel, by decide +kernel, by decide +kernel⟩, mw_495, mw_496, mw_497⟩
theorem lk_L_96 : fz_LV RL 96 yX3_fill cX3_fill 6 (some .int) 5 := ⟨⟨mw_15, mw_146, by decide +kernel, by decide +kernel, by decide +kernel⟩, mw_143, mw_144, mw_145⟩
theorem lk_L_100 : fz_LV RL 100 yX3_look cX3_look 4 (some .int) 2 := ⟨⟨mw_15, mw_291, by decide +kernel, by decide +kernel, by decide +kernel⟩, mw_288, mw_289, mw_290⟩
theorem lk_L_107 : fz_LV RL 107 yX3_step cX3_step 2 (some .int) 1 := ⟨⟨mw_15, mw_296, by decide +kernel, by decide +kernel, by decide +kernel⟩, mw_293, mw_294, mw_295⟩
theorem lk_L_113 : fz_LV RL 113 yX3_stepsToGo cX3_stepsToGo 5 (some .int) 1 := ⟨⟨mw_15, mw_394, by decide +kernel, by decide +kernel, by decide +kernel⟩, mw_391, mw_392, mw_393⟩
end FZL
end
section
theorem mk_323 : fz_M (.constantLong RJ13 314 6148914691236517205) := ⟨List.mem_of_getElem? (i := 266) (by decide +kernel), by decide +kernel⟩
theorem mk_324 : fz_M (.constantLong RJ13 316 3689348814741910323) := ⟨List.mem_of_getElem? (i := 267) (by decide +kernel), by decide +kernel⟩
theorem mk_325 : fz_M (.constantLong RJ13 318 1085102592571150095) := ⟨List.mem_of_getElem? (i := 268) (by decide +kernel), by decide +kernel⟩
theorem mk_434 : fz_M (.constant RJ6 265 1431655765) := ⟨List.mem_of_getElem? (i := 368) (by decide +kernel), by decide +kernel⟩
theorem mk_435 : fz_M (.constant RJ6 266 858993459) := ⟨List.mem_of_getElem? (i := 369) (by decide +kernel), by decide +kernel⟩
theorem mk_436 : fz_M (.constant RJ6 267 252645135) := ⟨List.mem_of_getElem? (i := 370) (by decide +kernel), by decide +kernel⟩
theorem mk_ac_nat : fz_M (.native arraycopyName) := ⟨List.mem_of_getElem? (i := 243) (by decide +kernel), by decide +kernel⟩
theorem mk_ac_st : fz_M (.static arraycopyName) := ⟨List.mem_of_getElem? (i := 242) (by decide +kernel), by decide +kernel⟩
theorem mk_ac_in : fz_M (.initialized "java/lang/System") := ⟨List.mem_of_getElem? (i := 24) (by decide +kernel), by decide +kernel⟩
theorem mk_ac_X2 : fz_M (.methodLink RX2 63 arraycopyName) := ⟨List.mem_of_getElem? (i := 241) (by decide +kernel), by decide +kernel⟩
theorem mk_ac_X0 : fz_M (.methodLink RX0 34 arraycopyName) := ⟨List.mem_of_getElem? (i := 286) (by decide +kernel), by decide +kernel⟩
theorem mk_ac_X1 : fz_M (.methodLink RX1 19 arraycopyName) := ⟨List.mem_of_getElem? (i := 403) (by decide +kernel), by decide +kernel⟩
/-- a row whose first k places are f's, the others h's -/
def fz_to (f h : Nat → Int32) (k : Nat) : Nat → Int32 := fun j => if j < k then f j else h j
theorem fz_to_0 (f h : Nat → Int32) : fz_to f h 0 = h := by
  funext j
  simp [fz_to]
theorem fz_to_lt {f h : Nat → Int32} {k j : Nat} (hj : j < k) : fz_to f h k j = f j := if_pos hj
theorem fz_to_ge {f h : Nat → Int32} {k j : Nat} (hj : k ≤ j) : fz_to f h k j = h j := if_neg (Nat.not_lt.mpr hj)
theorem fz_to_s (f h : Nat → Int32) (k : Nat) {x : Int32} (hx : x = f k) : upd (fz_to f h k) k x = fz_to f h (k + 1) := by
  subst hx
  funext j
  by_cases hj : j = k
  · subst hj
    rw [pk_us, fz_to_lt (Nat.lt_succ_self _)]
  · rw [pk_un hj]
    by_cases h2 : j < k
    · rw [fz_to_lt h2, fz_to_lt (Nat.lt_succ_of_lt h2)]
    · rw [fz_to_ge (by omega), fz_to_ge (by omega)]
theorem fz_to_n (f h : Nat → Int32) (k : Nat) (hx : h k = f k) : fz_to f h k = fz_to f h (k + 1) := by
  funext j
  by_cases hj : j = k
  · subst hj
    rw [fz_to_ge (Nat.le_refl _), fz_to_lt (Nat.lt_succ_self _), hx]
  · by_cases h2 : j < k
    · rw [fz_to_lt h2, fz_to_lt (Nat.lt_succ_of_lt h2)]
    · rw [fz_to_ge (by omega), fz_to_ge (by omega)]
theorem fz_cpy (f h : Nat → Int32) (k : Nat) : va_cpy f h 0 0 k = fz_to f h k := by
  funext j
  simp [va_cpy, fz_to]
section FZ2
variable {p : Program} {l : Launch} {e : Env} {R : Room} {s : State} {m : MethodId} {args : Array Value} {below : List Frame} {meth : Method} {c : Code} {H : Heap} {locs : List Loc} {cells slots : Nat} {Q : State → Prop}
variable {own : String} {cc : ByteArray} {n : Nat} {ret : Option FieldType} {g : GG} {A : Nat → Prop} {ws : va_W} {pc : Nat} {ls : Array Slot} {rest : List Value} {a : Nat}
theorem fz_cVi (X : fz_X p s m meth c own cc n ret g A) (hW : fz_W g A s ws H locs) {y : MethodName} {b : ByteArray} {n' np rf rl idx o ci q0 : Nat} {ret' : Option FieldType} {As : List Value} {ws1 : va_W} {r : Int32} {fs : List Value} {C : vw_C} {lv : List (Nat × Value)} {st0 : List Value} (hM : fz_C l g y b n' ret' rf rl (.ref o :: As) ws ws1 (some (.int r))) (hL : fz_LV own idx y b n' ret' np) (hc : classes[ci]? = some C) (hC : C.1 = y.cls) (he : ws[q0]? = some (o, .inr (ci, fs))) (hn : As.length = np) (hR : rf + 1 ≤ R.frames ∧ 8 + (n' + 11) + rl ≤ R.locals) (hl : lv_has ls n lv) (hst : st0 = As.reverse ++ .ref o :: rest) (hrm : (rest.map fun v => v.category).sum ≤ 8) (hdg : decode cc pc = .ok (.invokevirtual idx, 3)) (hcs : cells ≤ R.cells ∧ slots ≤ R.slots)
    (kk : ∀ (H1 : Heap) (locs1 : List Loc), fz_W g A s ws1 H1 locs1 → W p l e R s m args below meth c H1 locs1 cells slots Q (F0 m (pc + 3) ls (.int r :: rest))) : W p l e R s m args below meth c H locs cells slots Q (F0 m pc ls st0) := fz_cV X hW hM hL hc hC he hn hR hl hst hrm hdg kk hcs
theorem fz_cSi (X : fz_X p s m meth c own cc n ret g A) (hW : fz_W g A s ws H locs) {y : MethodName} {b : ByteArray} {n' np rf rl idx : Nat} {ret' : Option FieldType} {As : List Value} {ws1 : va_W} {r : Int32} {lv : List (Nat × Value)} {st0 : List Value} (hM : fz_C l g y b n' ret' rf rl As ws ws1 (some (.int r))) (hL : fz_LS own idx y b n' ret' np) (hn : As.length = np) (hR : rf + 1 ≤ R.frames ∧ 8 + (n' + 11) + rl ≤ R.locals) (hl : lv_has ls n lv) (hst : st0 = As.reverse ++ rest) (hrm : (rest.map fun v => v.category).sum ≤ 8) (hdg : decode cc pc = .ok (.invokestatic idx, 3)) (hcs : cells ≤ R.cells ∧ slots ≤ R.slots)
    (kk : ∀ (H1 : Heap) (locs1 : List Loc), fz_W g A s ws1 H1 locs1 → W p l e R s m args below meth c H1 locs1 cells slots Q (F0 m (pc + 3) ls (.int r :: rest))) : W p l e R s m args below meth c H locs cells slots Q (F0 m pc ls st0) := fz_cS X hW hM hL hn hR hl hst hrm hdg kk hcs
theorem fz_cNi (X : fz_X p s m meth c own cc n ret g A) (hW : fz_W g A s ws H locs) {y : MethodName} {b : ByteArray} {n' np rf rl idx : Nat} {ret' : Option FieldType} {As : List Value} {ws1 : va_W} {r : Int32} {lv : List (Nat × Value)} {st0 : List Value} (hM : fz_C l g y b n' ret' rf rl As ws ws1 (some (.int r))) (hL : fz_LN own idx y b n' ret' np) (hn : As.length = np) (hR : rf + 1 ≤ R.frames ∧ 8 + (n' + 11) + rl ≤ R.locals) (hl : lv_has ls n lv) (hst : st0 = As.reverse ++ rest) (hrm : (rest.map fun v => v.category).sum ≤ 8) (hdg : decode cc pc = .ok (.invokestatic idx, 3)) (hcs : cells ≤ R.cells ∧ slots ≤ R.slots)
    (kk : ∀ (H1 : Heap) (locs1 : List Loc), fz_W g A s ws1 H1 locs1 → W p l e R s m args below meth c H1 locs1 cells slots Q (F0 m (pc + 3) ls (.int r :: rest))) : W p l e R s m args below meth c H locs cells slots Q (F0 m pc ls st0) := fz_cN X hW hM hL hn hR hl hst hrm hdg kk hcs
theorem fz_cVl (X : fz_X p s m meth c own cc n ret g A) (hW : fz_W g A s ws H locs) {y : MethodName} {b : ByteArray} {n' np rf rl idx o ci q0 : Nat} {ret' : Option FieldType} {As : List Value} {ws1 : va_W} {r : Int64} {fs : List Value} {C : vw_C} {lv : List (Nat × Value)} {st0 : List Value} (hM : fz_C l g y b n' ret' rf rl (.ref o :: As) ws ws1 (some (.long r))) (hL : fz_LV own idx y b n' ret' np) (hc : classes[ci]? = some C) (hC : C.1 = y.cls) (he : ws[q0]? = some (o, .inr (ci, fs))) (hn : As.length = np) (hR : rf + 1 ≤ R.frames ∧ 8 + (n' + 11) + rl ≤ R.locals) (hl : lv_has ls n lv) (hst : st0 = As.reverse ++ .ref o :: rest) (hrm : (rest.map fun v => v.category).sum ≤ 8) (hdg : decode cc pc = .ok (.invokevirtual idx, 3)) (hcs : cells ≤ R.cells ∧ slots ≤ R.slots)
    (kk : ∀ (H1 : Heap) (locs1 : List Loc), fz_W g A s ws1 H1 locs1 → W p l e R s m args below meth c H1 locs1 cells slots Q (F0 m (pc + 3) ls (.long r :: rest))) : W p l e R s m args below meth c H locs cells slots Q (F0 m pc ls st0) := fz_cV X hW hM hL hc hC he hn hR hl hst hrm hdg kk hcs
theorem fz_cSl (X : fz_X p s m meth c own cc n ret g A) (hW : fz_W g A s ws H locs) {y : MethodName} {b : ByteArray} {n' np rf rl idx : Nat} {ret' : Option FieldType} {As : List Value} {ws1 : va_W} {r : Int64} {lv : List (Nat × Value)} {st0 : List Value} (hM : fz_C l g y b n' ret' rf rl As ws ws1 (some (.long r))) (hL : fz_LS own idx y b n' ret' np) (hn : As.length = np) (hR : rf + 1 ≤ R.frames ∧ 8 + (n' + 11) + rl ≤ R.locals) (hl : lv_has ls n lv) (hst : st0 = As.reverse ++ rest) (hrm : (rest.map fun v => v.category).sum ≤ 8) (hdg : decode cc pc = .ok (.invokestatic idx, 3)) (hcs : cells ≤ R.cells ∧ slots ≤ R.slots)
    (kk : ∀ (H1 : Heap) (locs1 : List Loc), fz_W g A s ws1 H1 locs1 → W p l e R s m args below meth c H1 locs1 cells slots Q (F0 m (pc + 3) ls (.long r :: rest))) : W p l e R s m args below meth c H locs cells slots Q (F0 m pc ls st0) := fz_cS X hW hM hL hn hR hl hst hrm hdg kk hcs
theorem fz_cNl (X : fz_X p s m meth c own cc n ret g A) (hW : fz_W g A s ws H locs) {y : MethodName} {b : ByteArray} {n' np rf rl idx : Nat} {ret' : Option FieldType} {As : List Value} {ws1 : va_W} {r : Int64} {lv : List (Nat × Value)} {st0 : List Value} (hM : fz_C l g y b n' ret' rf rl As ws ws1 (some (.long r))) (hL : fz_LN own idx y b n' ret' np) (hn : As.length = np) (hR : rf + 1 ≤ R.frames ∧ 8 + (n' + 11) + rl ≤ R.locals) (hl : lv_has ls n lv) (hst : st0 = As.reverse ++ rest) (hrm : (rest.map fun v => v.category).sum ≤ 8) (hdg : decode cc pc = .ok (.invokestatic idx, 3)) (hcs : cells ≤ R.cells ∧ slots ≤ R.slots)
    (kk : ∀ (H1 : Heap) (locs1 : List Loc), fz_W g A s ws1 H1 locs1 → W p l e R s m args below meth c H1 locs1 cells slots Q (F0 m (pc + 3) ls (.long r :: rest))) : W p l e R s m args below meth c H locs cells slots Q (F0 m pc ls st0) := fz_cN X hW hM hL hn hR hl hst hrm hdg kk hcs
theorem fz_cVv (X : fz_X p s m meth c own cc n ret g A) (hW : fz_W g A s ws H locs) {y : MethodName} {b : ByteArray} {n' np rf rl idx o ci q0 : Nat} {ret' : Option FieldType} {As : List Value} {ws1 : va_W} {fs : List Value} {C : vw_C} {lv : List (Nat × Value)} {st0 : List Value} (hM : fz_C l g y b n' ret' rf rl (.ref o :: As) ws ws1 none) (hL : fz_LV own idx y b n' ret' np) (hc : classes[ci]? = some C) (hC : C.1 = y.cls) (he : ws[q0]? = some (o, .inr (ci, fs))) (hn : As.length = np) (hR : rf + 1 ≤ R.frames ∧ 8 + (n' + 11) + rl ≤ R.locals) (hl : lv_has ls n lv) (hst : st0 = As.reverse ++ .ref o :: rest) (hrm : (rest.map fun v => v.category).sum ≤ 8) (hdg : decode cc pc = .ok (.invokevirtual idx, 3)) (hcs : cells ≤ R.cells ∧ slots ≤ R.slots)
    (kk : ∀ (H1 : Heap) (locs1 : List Loc), fz_W g A s ws1 H1 locs1 → W p l e R s m args below meth c H1 locs1 cells slots Q (F0 m (pc + 3) ls (rest))) : W p l e R s m args below meth c H locs cells slots Q (F0 m pc ls st0) := fz_cV X hW hM hL hc hC he hn hR hl hst hrm hdg kk hcs
theorem fz_cSv (X : fz_X p s m meth c own cc n ret g A) (hW : fz_W g A s ws H locs) {y : MethodName} {b : ByteArray} {n' np rf rl idx : Nat} {ret' : Option FieldType} {As : List Value} {ws1 : va_W} {lv : List (Nat × Value)} {st0 : List Value} (hM : fz_C l g y b n' ret' rf rl As ws ws1 none) (hL : fz_LS own idx y b n' ret' np) (hn : As.length = np) (hR : rf + 1 ≤ R.frames ∧ 8 + (n' + 11) + rl ≤ R.locals) (hl : lv_has ls n lv) (hst : st0 = As.reverse ++ rest) (hrm : (rest.map fun v => v.category).sum ≤ 8) (hdg : decode cc pc = .ok (.invokestatic idx, 3)) (hcs : cells ≤ R.cells ∧ slots ≤ R.slots)
    (kk : ∀ (H1 : Heap) (locs1 : List Loc), fz_W g A s ws1 H1 locs1 → W p l e R s m args below meth c H1 locs1 cells slots Q (F0 m (pc + 3) ls (rest))) : W p l e R s m args below meth c H locs cells slots Q (F0 m pc ls st0) := fz_cS X hW hM hL hn hR hl hst hrm hdg kk hcs
theorem fz_cNv (X : fz_X p s m meth c own cc n ret g A) (hW : fz_W g A s ws H locs) {y : MethodName} {b : ByteArray} {n' np rf rl idx : Nat} {ret' : Option FieldType} {As : List Value} {ws1 : va_W} {lv : List (Nat × Value)} {st0 : List Value} (hM : fz_C l g y b n' ret' rf rl As ws ws1 none) (hL : fz_LN own idx y b n' ret' np) (hn : As.length = np) (hR : rf + 1 ≤ R.frames ∧ 8 + (n' + 11) + rl ≤ R.locals) (hl : lv_has ls n lv) (hst : st0 = As.reverse ++ rest) (hrm : (rest.map fun v => v.category).sum ≤ 8) (hdg : decode cc pc = .ok (.invokestatic idx, 3)) (hcs : cells ≤ R.cells ∧ slots ≤ R.slots)
    (kk : ∀ (H1 : Heap) (locs1 : List Loc), fz_W g A s ws1 H1 locs1 → W p l e R s m args below meth c H1 locs1 cells slots Q (F0 m (pc + 3) ls (rest))) : W p l e R s m args below meth c H locs cells slots Q (F0 m pc ls st0) := fz_cN X hW hM hL hn hR hl hst hrm hdg kk hcs
theorem fz_ac (X : fz_X p s m meth c own cc n ret g A) (hW : fz_W g A s ws H locs) {idx : Nat} (hlk : fz_M (.methodLink own idx arraycopyName)) {lv : List (Nat × Value)} (hl : lv_has ls n lv) (q0 q1 : Nat) {a0 n0 n1 : Nat} {f h : Nat → Int32} (ha0 : ws[q0]? = some (a0, .inl (g.2 0, n0, .inl f))) (ha1 : ws[q1]? = some (a, .inl (g.2 0, n1, .inl h))) (k : Nat) (h0 : k ≤ n0) (h1 : k ≤ n1) (h2 : k < 2 ^ 31) {x : Int32} (hx : x = nI k) (hfr : 1 ≤ R.frames) (hlo : (rest.map fun v => v.category).sum + (nativeFrameWords "java/lang/System" "arraycopy" 5 + 11) ≤ R.locals) (hdg : decode cc pc = .ok (.invokestatic idx, 3))
    (kk : ∀ (H1 : Heap) (locs1 : List Loc), fz_W g A s (ws.set q1 (a, .inl (g.2 0, n1, .inl (fz_to f h k)))) H1 locs1 → W p l e R s m args below meth c H1 locs1 cells slots Q (F0 m (pc + 3) ls rest)) : W p l e R s m args below meth c H locs cells slots Q (F0 m pc ls (.int x :: .int 0 :: .ref a :: .int 0 :: .ref a0 :: rest)) := by
  subst hx
  have z0 : (0 : Int32).toNatClampNeg = 0 := rfl
  have hE := X.2.2.2.2.2.2.1
  refine va_copyi X.1 X.2.1 (X.2.2.2.1.trans hl.1.symm) X.2.2.2.2.1 (hE.use hlk _) (hE.use mk_ac_nat _) (hE.use mk_ac_st _) (hE.use mk_ac_in _) hE.1 hW.1 hW.2.1 hW.2.2 q0 q1 0 0 ha0 ha1 rfl rfl rfl (by decide) (by decide) (nI_pos h2) (by rw [z0, nI_clamp h2]; omega) (by rw [z0, nI_clamp h2]; omega) (fun _ _ => rfl) hfr hlo hdg (fun H1 locs1 g1 g2 g3 => ?_)
  rw [z0, nI_clamp h2, fz_cpy] at g1 g2
  exact kk H1 locs1 ⟨g1, g2, g3⟩
end FZ2
theorem fz_ac_X2 {p : Program} {l : Launch} {e : Env} {R : Room} {s : State} {m : MethodId} {args : Array Value} {below : List Frame} {meth : Method} {c : Code} {H : Heap} {locs : List Loc} {cells slots : Nat} {Q : State → Prop} {cc : ByteArray} {n : Nat} {ret : Option FieldType} {g : GG} {A : Nat → Prop} {ws : va_W} {pc : Nat} {ls : Array Slot} {rest : List Value} {a : Nat} (X : fz_X p s m meth c RX2 cc n ret g A) (hW : fz_W g A s ws H locs) {lv : List (Nat × Value)} (hl : lv_has ls n lv) (q0 q1 : Nat) {a0 n0 n1 : Nat} {f h : Nat → Int32} (ha0 : ws[q0]? = some (a0, .inl (g.2 0, n0, .inl f))) (ha1 : ws[q1]? = some (a, .inl (g.2 0, n1, .inl h))) (k : Nat) (h0 : k ≤ n0) (h1 : k ≤ n1) (h2 : k < 2 ^ 31) {x : Int32} (hx : x = nI k) (hfr : 1 ≤ R.frames) (hlo : (rest.map fun v => v.category).sum + (nativeFrameWords "java/lang/System" "arraycopy" 5 + 11) ≤ R.locals) (hdg : decode cc pc = .ok (.invokestatic 63, 3)) (kk : ∀ (H1 : Heap) (locs1 : List Loc), fz_W g A s (ws.set q1 (a, .inl (g.2 0, n1, .inl (fz_to f h k)))) H1 locs1 → W p l e R s m args below meth c H1 locs1 cells slots Q (F0 m (pc + 3) ls rest)) : W p l e R s m args below meth c H locs cells slots Q (F0 m pc ls (.int x :: .int 0 :: .ref a :: .int 0 :: .ref a0 :: rest)) := fz_ac X hW mk_ac_X2 hl q0 q1 ha0 ha1 k h0 h1 h2 hx hfr hlo hdg kk
theorem fz_ac_X0 {p : Program} {l : Launch} {e : Env} {R : Room} {s : State} {m : MethodId} {args : Array Value} {below : List Frame} {meth : Method} {c : Code} {H : Heap} {locs : List Loc} {cells slots : Nat} {Q : State → Prop} {cc : ByteArray} {n : Nat} {ret : Option FieldType} {g : GG} {A : Nat → Prop} {ws : va_W} {pc : Nat} {ls : Array Slot} {rest : List Value} {a : Nat} (X : fz_X p s m meth c RX0 cc n ret g A) (hW : fz_W g A s ws H locs) {lv : List (Nat × Value)} (hl : lv_has ls n lv) (q0 q1 : Nat) {a0 n0 n1 : Nat} {f h : Nat → Int32} (ha0 : ws[q0]? = some (a0, .inl (g.2 0, n0, .inl f))) (ha1 : ws[q1]? = some (a, .inl (g.2 0, n1, .inl h))) (k : Nat) (h0 : k ≤ n0) (h1 : k ≤ n1) (h2 : k < 2 ^ 31) {x : Int32} (hx : x = nI k) (hfr : 1 ≤ R.frames) (hlo : (rest.map fun v => v.category).sum + (nativeFrameWords "java/lang/System" "arraycopy" 5 + 11) ≤ R.locals) (hdg : decode cc pc = .ok (.invokestatic 34, 3)) (kk : ∀ (H1 : Heap) (locs1 : List Loc), fz_W g A s (ws.set q1 (a, .inl (g.2 0, n1, .inl (fz_to f h k)))) H1 locs1 → W p l e R s m args below meth c H1 locs1 cells slots Q (F0 m (pc + 3) ls rest)) : W p l e R s m args below meth c H locs cells slots Q (F0 m pc ls (.int x :: .int 0 :: .ref a :: .int 0 :: .ref a0 :: rest)) := fz_ac X hW mk_ac_X0 hl q0 q1 ha0 ha1 k h0 h1 h2 hx hfr hlo hdg kk
theorem fz_ac_X1 {p : Program} {l : Launch} {e : Env} {R : Room} {s : State} {m : MethodId} {args : Array Value} {below : List Frame} {meth : Method} {c : Code} {H : Heap} {locs : List Loc} {cells slots : Nat} {Q : State → Prop} {cc : ByteArray} {n : Nat} {ret : Option FieldType} {g : GG} {A : Nat → Prop} {ws : va_W} {pc : Nat} {ls : Array Slot} {rest : List Value} {a : Nat} (X : fz_X p s m meth c RX1 cc n ret g A) (hW : fz_W g A s ws H locs) {lv : List (Nat × Value)} (hl : lv_has ls n lv) (q0 q1 : Nat) {a0 n0 n1 : Nat} {f h : Nat → Int32} (ha0 : ws[q0]? = some (a0, .inl (g.2 0, n0, .inl f))) (ha1 : ws[q1]? = some (a, .inl (g.2 0, n1, .inl h))) (k : Nat) (h0 : k ≤ n0) (h1 : k ≤ n1) (h2 : k < 2 ^ 31) {x : Int32} (hx : x = nI k) (hfr : 1 ≤ R.frames) (hlo : (rest.map fun v => v.category).sum + (nativeFrameWords "java/lang/System" "arraycopy" 5 + 11) ≤ R.locals) (hdg : decode cc pc = .ok (.invokestatic 19, 3)) (kk : ∀ (H1 : Heap) (locs1 : List Loc), fz_W g A s (ws.set q1 (a, .inl (g.2 0, n1, .inl (fz_to f h k)))) H1 locs1 → W p l e R s m args below meth c H1 locs1 cells slots Q (F0 m (pc + 3) ls rest)) : W p l e R s m args below meth c H locs cells slots Q (F0 m pc ls (.int x :: .int 0 :: .ref a :: .int 0 :: .ref a0 :: rest)) := fz_ac X hW mk_ac_X1 hl q0 q1 ha0 ha1 k h0 h1 h2 hx hfr hlo hdg kk
end
section
/-! the picture of a Sender: its rows, moves, known pictures, counts; and the cells that hold it -/
abbrev SV : Type := (((((Nat → Int32) × (Nat → Int32)) × ((Nat → Int32) × (Nat → Int32))) × (((Nat → Int32) × (Nat → Int32)) × ((Nat → Int32) × (Nat → Nat → Nat)))) × ((((Nat) × (Nat → Int32)) × ((Nat) × (Nat → Int32))) × (((Int32) × (Int32)) × (Nat))))
def SV.near (v : SV) : Nat → Int32 := v.1.1.1.1
def SV.far (v : SV) : Nat → Int32 := v.1.1.1.2
def SV.since (v : SV) : Nat → Int32 := v.1.1.2.1
def SV.ch (v : SV) : Nat → Int32 := v.1.1.2.2
def SV.worths (v : SV) : Nat → Int32 := v.1.2.1.1
def SV.order (v : SV) : Nat → Int32 := v.1.2.1.2
def SV.before (v : SV) : Nat → Int32 := v.1.2.2.1
def SV.mv (v : SV) : Nat → Nat → Nat := v.1.2.2.2
def SV.wm (v : SV) : Nat := v.2.1.1.1
def SV.kp (v : SV) : Nat → Int32 := v.2.1.1.2
def SV.kc (v : SV) : Nat := v.2.1.2.1
def SV.sc (v : SV) : Nat → Int32 := v.2.1.2.2
def SV.us (v : SV) : Int32 := v.2.2.1.1
def SV.now (v : SV) : Int32 := v.2.2.1.2
def SV.la (v : SV) : Nat := v.2.2.2
def SV.mk9 (near : Nat → Int32) (far : Nat → Int32) (since : Nat → Int32) (ch : Nat → Int32) (worths : Nat → Int32) (order : Nat → Int32) (before : Nat → Int32) (mv : Nat → Nat → Nat) (wm : Nat) (kp : Nat → Int32) (kc : Nat) (sc : Nat → Int32) (us : Int32) (now : Int32) (la : Nat) : SV := ((((near, far), (since, ch)), ((worths, order), (before, mv))), (((wm, kp), (kc, sc)), ((us, now), la)))
def SV.nearS (v : SV) (x : Nat → Int32) : SV := SV.mk9 x v.far v.since v.ch v.worths v.order v.before v.mv v.wm v.kp v.kc v.sc v.us v.now v.la
def SV.farS (v : SV) (x : Nat → Int32) : SV := SV.mk9 v.near x v.since v.ch v.worths v.order v.before v.mv v.wm v.kp v.kc v.sc v.us v.now v.la
def SV.sinceS (v : SV) (x : Nat → Int32) : SV := SV.mk9 v.near v.far x v.ch v.worths v.order v.before v.mv v.wm v.kp v.kc v.sc v.us v.now v.la
def SV.chS (v : SV) (x : Nat → Int32) : SV := SV.mk9 v.near v.far v.since x v.worths v.order v.before v.mv v.wm v.kp v.kc v.sc v.us v.now v.la
def SV.worthsS (v : SV) (x : Nat → Int32) : SV := SV.mk9 v.near v.far v.since v.ch x v.order v.before v.mv v.wm v.kp v.kc v.sc v.us v.now v.la
def SV.orderS (v : SV) (x : Nat → Int32) : SV := SV.mk9 v.near v.far v.since v.ch v.worths x v.before v.mv v.wm v.kp v.kc v.sc v.us v.now v.la
def SV.beforeS (v : SV) (x : Nat → Int32) : SV := SV.mk9 v.near v.far v.since v.ch v.worths v.order x v.mv v.wm v.kp v.kc v.sc v.us v.now v.la
def SV.mvS (v : SV) (x : Nat → Nat → Nat) : SV := SV.mk9 v.near v.far v.since v.ch v.worths v.order v.before x v.wm v.kp v.kc v.sc v.us v.now v.la
def SV.wmS (v : SV) (x : Nat) : SV := SV.mk9 v.near v.far v.since v.ch v.worths v.order v.before v.mv x v.kp v.kc v.sc v.us v.now v.la
def SV.kpS (v : SV) (x : Nat → Int32) : SV := SV.mk9 v.near v.far v.since v.ch v.worths v.order v.before v.mv v.wm x v.kc v.sc v.us v.now v.la
def SV.kcS (v : SV) (x : Nat) : SV := SV.mk9 v.near v.far v.since v.ch v.worths v.order v.before v.mv v.wm v.kp x v.sc v.us v.now v.la
def SV.scS (v : SV) (x : Nat → Int32) : SV := SV.mk9 v.near v.far v.since v.ch v.worths v.order v.before v.mv v.wm v.kp v.kc x v.us v.now v.la
def SV.usS (v : SV) (x : Int32) : SV := SV.mk9 v.near v.far v.since v.ch v.worths v.order v.before v.mv v.wm v.kp v.kc v.sc x v.now v.la
def SV.nowS (v : SV) (x : Int32) : SV := SV.mk9 v.near v.far v.since v.ch v.worths v.order v.before v.mv v.wm v.kp v.kc v.sc v.us x v.la
def SV.laS (v : SV) (x : Nat) : SV := SV.mk9 v.near v.far v.since v.ch v.worths v.order v.before v.mv v.wm v.kp v.kc v.sc v.us v.now x
abbrev BM (f : Nat → Nat) : va_E := .inr (0, [.int (nI (f 0)), .int (nI (f 1)), .int (nI (f 2)), .int (nI (f 3)), .int (nI (f 4)), .int (nI (f 5))])
abbrev SW (g : GG) (a : Nat → Nat) (v : SV) : va_W := [(a 0, .inr (2, [.ref (a 1), .ref (a 2), .ref (a 3), .ref (a 4), .ref (a 5), .ref (a 6), .ref (a 7), .ref (a 8), .int (nI v.wm), .ref (a 9), .ref (a 11), .int v.us, .int v.now, .int (nI v.la)])), (a 1, .inl (g.2 0, 48, .inl v.near)), (a 2, .inl (g.2 0, 48, .inl v.far)), (a 3, .inl (g.2 0, 48, .inl v.since)), (a 4, .inl (g.2 0, 48, .inl v.ch)), (a 5, .inl (g.2 0, 48, .inl v.worths)), (a 6, .inl (g.2 0, 48, .inl v.order)), (a 7, .inl (g.2 0, 48, .inl v.before)), (a 8, .inl (g.2 3, 5, .inr (.inr (.inr (.inr (fun j => if j < 5 then some (a (12 + j)) else none)))))), (a 9, .inr (1, [.ref (a 10), .int (nI v.kc)])), (a 10, .inl (g.2 0, 8, .inl v.kp)), (a 11, .inl (g.2 0, 4, .inl v.sc)), (a 12, BM (v.mv 0)), (a 13, BM (v.mv 1)), (a 14, BM (v.mv 2)), (a 15, BM (v.mv 3)), (a 16, BM (v.mv 4))]
/-- a row of known pictures by itself -/
abbrev KW (g : GG) (o q : Nat) (kp : Nat → Int32) (kc : Nat) : va_W := [(o, .inr (1, [.ref q, .int (nI kc)])), (q, .inl (g.2 0, 8, .inl kp))]
/-- the place of a picture from i on, k places to look at -/
def plcF (kp : Nat → Int32) (x : Int32) : Nat → Nat → Int32
  | _, 0 => -1
  | i, k + 1 => if kp i = x then nI i else plcF kp x (i + 1) k
def ushI (x k : Int32) : Int32 := (x.toUInt32 >>> (k.toUInt32 &&& Int32.toUInt32 31)).toInt32
def ushL (x : Int64) (k : Int32) : Int64 := (x.toUInt64 >>> (k.toInt64.toUInt64 &&& Int64.toUInt64 63)).toInt64
def bc1 (x : Int32) : Int32 := x - (ushI x 1 &&& 1431655765)
def bc2 (x : Int32) : Int32 := (x &&& 858993459) + (ushI x 2 &&& 858993459)
def bc3 (x : Int32) : Int32 := (x + ushI x 4) &&& 252645135
def bc4 (x : Int32) : Int32 := x + ushI x 8
def bc5 (x : Int32) : Int32 := x + ushI x 16
/-- the bits of an int, counted as the library does it -/
def bcI (x : Int32) : Int32 := bc5 (bc4 (bc3 (bc2 (bc1 x)))) &&& 63
def bl1 (x : Int64) : Int64 := x - (ushL x 1 &&& 6148914691236517205)
def bl2 (x : Int64) : Int64 := (x &&& 3689348814741910323) + (ushL x 2 &&& 3689348814741910323)
def bl3 (x : Int64) : Int64 := (x + ushL x 4) &&& 1085102592571150095
def bl4 (x : Int64) : Int64 := x + ushL x 8
def bl5 (x : Int64) : Int64 := x + ushL x 16
def bl6 (x : Int64) : Int64 := x + ushL x 32
def bcL (x : Int64) : Int32 := (bl6 (bl5 (bl4 (bl3 (bl2 (bl1 x)))))).toInt32 &&& 127
def absI (x : Int32) : Int32 := if 0 ≤ x then x else 0 - x
/-- moves of blocks: fields 0 fromX, 1 fromY, 2 columns, 3 rows, 4 toX, 5 toY -/
def MOK (f : Nat → Nat) : Prop := f 0 + f 2 ≤ 8 ∧ f 1 + f 3 ≤ 6 ∧ f 4 + f 2 ≤ 8 ∧ f 5 + f 3 ≤ 6
def apC (f : Nat → Nat) (bef : Nat → Int32) (r : Nat) (scr : Nat → Int32) : Nat → (Nat → Int32)
  | 0 => scr
  | c + 1 => upd (apC f bef r scr c) (8 * (f 5 + r) + (f 4 + c)) (bef (8 * (f 1 + r) + (f 0 + c)))
def apR (f : Nat → Nat) (bef scr : Nat → Int32) : Nat → (Nat → Int32)
  | 0 => scr
  | r + 1 => apC f bef r (apR f bef scr r) (f 2)
def apF (f : Nat → Nat) (scr bef : Nat → Int32) : Nat → Int32 := apR f (fz_to scr bef 48) scr (f 3)
abbrev AW (g : GG) (o q r : Nat) (f : Nat → Nat) (scr bef : Nat → Int32) : va_W := [(o, BM f), (q, .inl (g.2 0, 48, .inl scr)), (r, .inl (g.2 0, 48, .inl bef))]
/-- a picture is met -/
def mtG (kp : Nat → Int32) (kc : Nat) (x : Int32) : Nat := if plcF kp x 0 kc = -1 then (if kc < 8 then kc else 7) else (plcF kp x 0 kc).toNatClampNeg
def mtC (kp : Nat → Int32) (kc : Nat) (x : Int32) : Nat := if plcF kp x 0 kc = -1 then (if kc < 8 then kc + 1 else kc) else kc
/-- places above i, up to g, have what stood one place lower -/
def shF (kp : Nat → Int32) (g i : Nat) : Nat → Int32 := fun j => if i < j ∧ j ≤ g then kp (j - 1) else kp j
def mtP (kp : Nat → Int32) (kc : Nat) (x : Int32) : Nat → Int32 := upd (shF kp (mtG kp kc x) 0) 0 x
theorem shF_g (kp : Nat → Int32) (g : Nat) : shF kp g g = kp := by
  funext j
  have h : ¬ (g < j ∧ j ≤ g) := by omega
  simp [shF, h]
theorem shF_s (kp : Nat → Int32) (g i : Nat) (h : i < g) : upd (shF kp g (i + 1)) (i + 1) (shF kp g (i + 1) i) = shF kp g i := by
  funext j
  have h1 : ¬ (i + 1 < i ∧ i ≤ g) := by omega
  by_cases hj : j = i + 1
  · subst hj
    rw [pk_us]
    have h2 : i < i + 1 ∧ i + 1 ≤ g := by omega
    simp [shF, h1, h2]
  · rw [pk_un hj]
    by_cases h3 : i < j ∧ j ≤ g
    · have h4 : i + 1 < j ∧ j ≤ g := by omega
      simp [shF, h3, h4]
    · have h4 : ¬ (i + 1 < j ∧ j ≤ g) := by omega
      simp [shF, h3, h4]
theorem plcF_in (kp : Nat → Int32) (x : Int32) : ∀ (k i : Nat), plcF kp x i k = -1 ∨ ∃ j, i ≤ j ∧ j < i + k ∧ plcF kp x i k = nI j := by
  intro k
  induction k with
  | zero => intro i; exact Or.inl rfl
  | succ k ih =>
    intro i
    show (if kp i = x then nI i else plcF kp x (i + 1) k) = -1 ∨ _
    by_cases h : kp i = x
    · refine Or.inr ⟨i, Nat.le_refl _, by omega, ?_⟩
      exact if_pos h
    · rw [if_neg h]
      rcases ih (i + 1) with h2 | ⟨j, h3, h4, h5⟩
      · exact Or.inl h2
      · refine Or.inr ⟨j, by omega, by omega, ?_⟩
        show (if kp i = x then nI i else plcF kp x (i + 1) k) = nI j
        rw [if_neg h, h5]
/-- what the drawing calls note -/
def ncF (v : SV) : Nat → Int32 := fun t => if v.near t = v.before t then v.ch t else v.ch t ||| 1
def nuF (v : SV) : Nat → Int32 := fun t => if v.near t = v.far t then -1 else if v.since t = -1 then v.now else v.since t
def ncV (v : SV) : SV := v.chS (fz_to (ncF v) v.ch 48)
def nuV (v : SV) : SV := v.sinceS (fz_to (nuF v) v.since 48)
def scV (v : SV) : SV := v.chS (fz_to (fun t => v.ch t <<< ((1 : Int32) &&& 31) &&& 255) v.ch 48)
def kdI (v : SV) (t : Nat) : Int32 := if bcI (v.ch t) < 4 then (if v.near t < 64 then 0 else 1) else 2
def hfF (v : SV) : Nat → Nat → Int32
  | _, 0 => 0
  | i, k + 1 => if kdI v i = 2 then 1 else hfF v (i + 1) k
def usF (v : SV) : Nat → Int64
  | 0 => 0
  | t + 1 => if v.since t = -1 then usF v t else usF v t ||| (1 <<< ((nI t).toInt64 &&& 63))
def crF (v : SV) : Nat → Int32
  | 0 => 0
  | t + 1 => if v.far t < 1000 then crF v t else crF v t + 1
def alI (v : SV) : Int32 := if v.wm = 0 then (if usF v 48 = 0 then 1 else 0) else 0
def lkI (la t : Nat) : Int32 := if 1 < absI ((nI t - nI t / 8 * 8) - (nI la - nI la / 8 * 8)) then 0 else if 1 < absI (nI t / 8 - nI la / 8) then 0 else 1
def woI (v : SV) (t : Nat) : Int32 := if lkI v.la t = 0 then v.now - v.since t else v.now - v.since t + 5
def wcI (x : Int32) : Int32 := if x < 64 then 2 else 6
/-- a tile is put in its place among those ahead of p -/
def insF (wv : Nat → Int32) (t : Nat) : Nat → (Nat → Int32) → (Nat → Int32)
  | 0, o => upd o 0 (nI t)
  | p + 1, o => if wv (o p).toNatClampNeg < wv t then insF wv t p (upd o (p + 1) (o p)) else upd o (p + 1) (nI t)
def piF (v : SV) : Nat → Nat × (Nat → Int32) × (Nat → Int32)
  | 0 => (0, v.worths, v.order)
  | t + 1 => if v.since t = -1 then piF v t else ((piF v t).1 + 1, upd (piF v t).2.1 t (woI v t), insF (upd (piF v t).2.1 t (woI v t)) t (piF v t).1 (piF v t).2.2)
def poV (v : SV) (w o : Nat → Int32) : SV := (SV.mk9 v.near v.far v.since v.ch (w) (o) v.before v.mv v.wm v.kp v.kc v.sc v.us v.now v.la)
def piV (v : SV) (t : Nat) : SV := poV v (piF v t).2.1 (piF v t).2.2
def spV (v : SV) (t what : Nat) : SV := SV.mk9 v.near (upd v.far t (v.near t)) (upd v.since t (-1)) v.ch v.worths v.order v.before v.mv v.wm (mtP v.kp v.kc (v.near t)) (mtC v.kp v.kc (v.near t)) (upd v.sc what (v.sc what + 1)) v.us v.now v.la
def roI (v : SV) (t : Nat) : Int32 := 1000 + v.near t / 16
def srV (v : SV) (t : Nat) : SV := (SV.mk9 v.near (upd v.far t (roI v t)) v.since v.ch v.worths v.order v.before v.mv v.wm v.kp v.kc (upd v.sc 2 (v.sc 2 + 1)) v.us v.now v.la)
/-- sending a picture, roughly, a tile: what it costs and what then stands -/
def spR (v : SV) (t what : Nat) (cost left : Int32) : Int32 × SV := if left < cost then (0, v) else (cost, spV v t what)
def srR (v : SV) (t : Nat) (left : Int32) : Int32 × SV := if left < 2 then (0, v) else if v.far t = roI v t then (0, v) else (2, srV v t)
def stR (v : SV) (t : Nat) (left : Int32) : Int32 × SV := if plcF v.kp (v.near t) 0 v.kc = -1 then (if kdI v t = 2 then srR v t left else spR v t 3 (wcI (v.near t)) left) else spR v t 1 1 left
def saF (v : SV) (b : Int32) : Nat → Int32 × SV
  | 0 => (b, v)
  | p + 1 => ((saF v b p).1 - (stR (saF v b p).2 ((saF v b p).2.order p).toNatClampNeg (saF v b p).1).1, (stR (saF v b p).2 ((saF v b p).2.order p).toNatClampNeg (saF v b p).1).2)
def saR (v : SV) (b : Int32) : Int32 × SV := (b - (saF (piV v 48) b (piF v 48).1).1, (saF (piV v 48) b (piF v 48).1).2)
/-- moves are told, and forgotten -/
def afV (v : SV) (j : Nat) : SV := (SV.mk9 v.near (apF (v.mv j) v.far v.before) v.since v.ch v.worths v.order (fz_to v.far v.before 48) v.mv v.wm v.kp v.kc v.sc v.us v.now v.la)
def anV (v : SV) (j : Nat) : SV := (SV.mk9 (apF (v.mv j) v.near v.before) v.far v.since v.ch v.worths v.order (fz_to v.near v.before 48) v.mv v.wm v.kp v.kc v.sc v.us v.now v.la)
def mvU (mv : Nat → Nat → Nat) (j : Nat) (f : Nat → Nat) : Nat → Nat → Nat := fun i => if i = j then f else mv i
def fmF (mv : Nat → Nat → Nat) (told : Nat) : Nat → (Nat → Nat → Nat)
  | 0 => mv
  | k + 1 => mvU (fmF mv told k) k (fmF mv told k (told + k))
def fmV (v : SV) (told : Nat) : SV := (SV.mk9 v.near v.far v.since v.ch v.worths v.order v.before (fmF v.mv told (v.wm - told)) (v.wm - told) v.kp v.kc v.sc v.us v.now v.la)
def tlF (b : Int32) : SV → Nat → Nat → Nat × SV
  | v, told, 0 => (told, v)
  | v, told, k + 1 => if b - nI told * 2 < 2 then (told, v) else tlF b (nuV (afV v told)) (told + 1) k
def tsV (v : SV) (n : Nat) : SV := v.scS (upd v.sc 0 (v.sc 0 + nI n))
def tlV (v : SV) (b : Int32) : SV := tsV (fmV (tlF b v 0 v.wm).2 (tlF b v 0 v.wm).1) (tlF b v 0 v.wm).1
def knV (v : SV) (p : Nat → Int32) (n : Nat) : SV := (SV.mk9 v.near v.far v.since v.ch v.worths v.order v.before v.mv v.wm (p) (n) v.sc v.us v.now v.la)
def tlR (v : SV) (b : Int32) : Int32 × SV := (nI (tlF b v 0 v.wm).1 * 2, tlV v b)
def psA (v : SV) (b : Int32) : Int32 × SV := if (tlR v b).2.wm = 0 then ((tlR v b).1 + (saR (tlR v b).2 (b - (tlR v b).1)).1, (saR (tlR v b).2 (b - (tlR v b).1)).2) else tlR v b
def unV (v : SV) (x : Int32) : SV := (SV.mk9 v.near v.far v.since v.ch v.worths v.order v.before v.mv v.wm v.kp v.kc v.sc (v.us + x) (v.now + 1) v.la)
def psV (v : SV) (b : Int32) : SV := scV (unV (psA v b).2 (psA v b).1)
/-- drawing -/
def paC (p : Int32) (x row : Nat) (scr : Nat → Int32) : Nat → (Nat → Int32)
  | 0 => scr
  | c + 1 => upd (paC p x row scr c) (8 * row + (x + c)) p
def paR (p : Int32) (x y w : Nat) (scr : Nat → Int32) : Nat → (Nat → Int32)
  | 0 => scr
  | r + 1 => paC p x (y + r) (paR p x y w scr r) w
def nbV (v : SV) (n b : Nat → Int32) : SV := (SV.mk9 (n) v.far v.since v.ch v.worths v.order (b) v.mv v.wm v.kp v.kc v.sc v.us v.now v.la)
def paV (v : SV) (x y w h : Nat) (p : Int32) : SV := nuV (ncV (nbV v (paR p x y w v.near h) (fz_to v.near v.before 48)))
def mkM (x y w h tx ty : Nat) : Nat → Nat := fun k => match k with
  | 0 => x
  | 1 => y
  | 2 => w
  | 3 => h
  | 4 => tx
  | _ => ty
def shA (v : SV) (f : Nat → Nat) : SV := anV (v.mvS (mvU v.mv v.wm f)) v.wm
def shV (v : SV) (f : Nat → Nat) : SV := nuV (ncV ((shA v f).wmS (if v.wm < 4 then v.wm + 1 else v.wm)))
def coV (v u : SV) : SV := SV.mk9 (fz_to u.near v.near 48) (fz_to u.far v.far 48) (fz_to u.since v.since 48) (fz_to u.ch v.ch 48) v.worths v.order v.before (fun j => if j < u.wm then u.mv j else v.mv j) u.wm (fz_to u.kp v.kp 8) u.kc (fz_to u.sc v.sc 4) u.us u.now u.la
end
section
set_option maxHeartbeats 4000000 in
set_option maxRecDepth 100000 in
theorem c_X3_tileAt (l : Launch) (g : GG) (x y : Int32) (ws : va_W) : fz_C l g yX3_tileAt cX3_tileAt 2 (some .int) 0 0 [.int x, .int y] (ws) (ws) (some (.int (8 * y + x))) := by
  refine fz_C.of (by decide) (Nat.le_of_ble_eq_true rfl) ?_
  intro p e s m args below meth c A ls X hW hl
  have hx := X.1
  have hb := X.2.1
  have hl : lv_has ls 2 [(0, .int x), (1, .int y)] := hl
  have X : fz_X p s m meth c RX3 cX3_tileAt 2 (some .int) g A := X
  have hW : fz_W g A s (ws) s.heap [] := hW
  refine lv_bipush (v := 8) hx hb dX3_tileAt_0 (by decide) ?_
  refine lv_iload_n hx hb dX3_tileAt_2 rfl (lv_at hl 1 rfl) ?_
  refine lv_imul hx hb dX3_tileAt_3 ?_
  refine lv_iload_n hx hb dX3_tileAt_4 rfl (lv_at hl 0 rfl) ?_
  refine lv_iadd hx hb dX3_tileAt_5 ?_
  exact fz_ri X (fz_cast (rfl) hW) (rfl) dX3_tileAt_6
set_option maxHeartbeats 4000000 in
set_option maxRecDepth 100000 in
theorem c_X3_wholeCost (l : Launch) (g : GG) (x : Int32) (ws : va_W) : fz_C l g yX3_wholeCost cX3_wholeCost 1 (some .int) 0 0 [.int x] (ws) (ws) (some (.int (wcI x))) := by
  refine fz_C.of (by decide) (Nat.le_of_ble_eq_true rfl) ?_
  intro p e s m args below meth c A ls X hW hl
  have hx := X.1
  have hb := X.2.1
  have hl : lv_has ls 1 [(0, .int x)] := hl
  have X : fz_X p s m meth c RX3 cX3_wholeCost 1 (some .int) g A := X
  have hW : fz_W g A s (ws) s.heap [] := hW
  refine lv_iload_n hx hb dX3_wholeCost_0 rfl (lv_at hl 0 rfl) ?_
  refine lv_bipush (v := 64) hx hb dX3_wholeCost_1 (by decide) ?_
  refine lv_icmp_ge (tgt := 10) hx hb dX3_wholeCost_3 (by decide) (fun c3 => ?_) (fun c3 => ?_)
  · skip
    refine lv_bipush (v := 6) hx hb dX3_wholeCost_10 (by decide) ?_
    exact fz_ri X (fz_cast (rfl) hW) (by first | exact (if_neg (Int32.not_lt.mpr c3)).symm | exact (if_pos (Int32.not_le.mp c3)).symm) dX3_wholeCost_12
  · skip
    refine lv_iconst (v := 2) hx hb dX3_wholeCost_6 (by decide) ?_
    refine lv_goto (tgt := 12) hx hb dX3_wholeCost_7 (by decide) ?_
    exact fz_ri X (fz_cast (rfl) hW) (by first | exact (if_neg (Int32.not_lt.mpr c3)).symm | exact (if_pos (Int32.not_le.mp c3)).symm) dX3_wholeCost_12
set_option maxHeartbeats 4000000 in
set_option maxRecDepth 100000 in
theorem c_X1_placeOf (l : Launch) (g : GG) (o q : Nat) (kp : Nat → Int32) (kc : Nat) (x : Int32) (hkc : kc ≤ 8) : fz_C l g yX1_placeOf cX1_placeOf 3 (some .int) 0 0 [.ref o, .int x] (KW g o q kp kc) (KW g o q kp kc) (some (.int (plcF kp x 0 kc))) := by
  refine fz_C.of (by decide) (Nat.le_of_ble_eq_true rfl) ?_
  intro p e s m args below meth c A ls X hW hl
  have hx := X.1
  have hb := X.2.1
  have hl : lv_has ls 3 [(0, .ref o), (1, .int x)] := hl
  have X : fz_X p s m meth c RX1 cX1_placeOf 3 (some .int) g A := X
  have hW : fz_W g A s (KW g o q kp kc) s.heap [] := hW
  refine lv_iconst (v := 0) hx hb dX1_placeOf_0 (by decide) ?_
  refine lv_istore_n (lv' := [(2, .int 0), (0, .ref o), (1, .int x)]) hx hb dX1_placeOf_1 rfl hl (by decide) rfl (fun ls hl => ?_)
  have loop2 : ∀ (k : Nat) (i : Nat), i ≤ kc → kc < i + k → plcF kp x 0 kc = plcF kp x i (kc - i) → ∀ (H : Heap) (locs : List Loc) (ls : Array Slot), fz_W g A s (KW g o q kp kc) H locs → lv_has ls 3 [(0, .ref o), (1, .int x), (2, .int (nI i))] → W p l e (fz_R 0 0 0 0) s m args below meth c H locs 0 0 (MQ below (fz_Q g (KW g o q kp kc) (some (.int (plcF kp x 0 kc))) A) args s 0 0 A) (F0 m 2 ls []) := by
    intro k
    induction k with
    | zero =>
      intro i hi hk
      omega
    | succ k ih2 =>
      intro i hi hk he H locs ls hW hl
      refine lv_iload_n hx hb dX1_placeOf_2 rfl (lv_at hl 2 rfl) ?_
      refine lv_aload_n hx hb dX1_placeOf_3 rfl (lv_at hl 0 rfl) ?_
      refine gf_X1_15 X hW 0 rfl rfl dX1_placeOf_4 ?_
      refine lv_icmp_ge (tgt := 28) hx hb dX1_placeOf_7 (by decide) (fun c7 => ?_) (fun c7 => ?_)
      · skip
        have h7 : kc ≤ i := (nI_leI (a := kc) (b := i) (by omega) (by omega)).mp c7
        refine lv_iconst (v := (-1)) hx hb dX1_placeOf_28 (by decide) ?_
        exact fz_ri X (fz_cast (rfl) hW) (by rw [he, show kc - i = 0 by omega]; rfl) dX1_placeOf_29
      · skip
        have h7 : i < kc := Nat.not_le.mp (fun z => c7 ((nI_leI (a := kc) (b := i) (by omega) (by omega)).mpr z))
        refine lv_aload_n hx hb dX1_placeOf_10 rfl (lv_at hl 0 rfl) ?_
        refine gf_X1_9 X hW 0 rfl rfl dX1_placeOf_11 ?_
        refine lv_iload_n hx hb dX1_placeOf_14 rfl (lv_at hl 2 rfl) ?_
        refine fz_il X hW 1 (i) rfl rfl (by omega) (by decide) dX1_placeOf_15 ?_
        refine lv_iload_n hx hb dX1_placeOf_16 rfl (lv_at hl 1 rfl) ?_
        refine lv_icmp_ne (tgt := 22) hx hb dX1_placeOf_17 (by decide) (fun c17 => ?_) (fun c17 => ?_)
        · skip
          refine lv_iinc (v := nI (i + 1)) (lv' := [(2, .int (nI (i + 1))), (0, .ref o), (1, .int x)]) hx hb dX1_placeOf_22 hl (k := 2) rfl (nI_1 _) (by decide) rfl (fun ls hl => ?_)
          refine lv_goto (tgt := 2) hx hb dX1_placeOf_25 (by decide) ?_
          exact ih2 (i + 1) (by omega) (by omega) (by rw [he, show kc - i = (kc - (i + 1)) + 1 by omega]; exact if_neg c17) _ _ _ (fz_cast (rfl) hW) (lv_sub hl [1, 2, 0] rfl)
        · skip
          refine lv_iload_n hx hb dX1_placeOf_20 rfl (lv_at hl 2 rfl) ?_
          exact fz_ri X (fz_cast (rfl) hW) (by rw [he, show kc - i = (kc - (i + 1)) + 1 by omega]; exact (if_pos c17).symm) dX1_placeOf_21
  exact loop2 (kc + 1) 0 (by omega) (by omega) rfl _ _ _ (fz_cast (rfl) hW) (lv_sub hl [1, 2, 0] rfl)
set_option maxHeartbeats 4000000 in
set_option maxRecDepth 100000 in
theorem c_X1_holds (l : Launch) (g : GG) (o q : Nat) (kp : Nat → Int32) (kc : Nat) (x : Int32) (hkc : kc ≤ 8) : fz_C l g yX1_holds cX1_holds 2 (some .boolean) 1 22 [.ref o, .int x] (KW g o q kp kc) (KW g o q kp kc) (some (.int (if plcF kp x 0 kc = -1 then 0 else 1))) := by
  refine fz_C.of (by decide) (Nat.le_of_ble_eq_true rfl) ?_
  intro p e s m args below meth c A ls X hW hl
  have hx := X.1
  have hb := X.2.1
  have hl : lv_has ls 2 [(0, .ref o), (1, .int x)] := hl
  have X : fz_X p s m meth c RX1 cX1_holds 2 (some .boolean) g A := X
  have hW : fz_W g A s (KW g o q kp kc) s.heap [] := hW
  refine lv_aload_n hx hb dX1_holds_0 rfl (lv_at hl 0 rfl) ?_
  refine lv_iload_n hx hb dX1_holds_1 rfl (lv_at hl 1 rfl) ?_
  refine fz_cVi X hW (c_X1_placeOf l g o q kp kc x hkc) lk_X1_25 (ci := 1) (q0 := 0) rfl rfl rfl rfl ⟨Nat.le_of_ble_eq_true rfl, Nat.le_of_ble_eq_true rfl⟩ hl rfl (Nat.le_of_ble_eq_true rfl) dX1_holds_2 ⟨Nat.le_refl _, Nat.le_refl _⟩ (fun H locs hW => ?_)
  refine lv_iconst (v := (-1)) hx hb dX1_holds_5 (by decide) ?_
  refine lv_icmp_eq (tgt := 13) hx hb dX1_holds_6 (by decide) (fun c6 => ?_) (fun c6 => ?_)
  · skip
    refine lv_iconst (v := 0) hx hb dX1_holds_13 (by decide) ?_
    exact fz_rz X (fz_cast (rfl) hW) (by first | exact (if_neg c6).symm | exact (if_pos c6).symm) (by by_cases h : plcF kp x 0 kc = -1 <;> simp only [h, if_true, if_false] <;> rfl) dX1_holds_14
  · skip
    refine lv_iconst (v := 1) hx hb dX1_holds_9 (by decide) ?_
    refine lv_goto (tgt := 14) hx hb dX1_holds_10 (by decide) ?_
    exact fz_rz X (fz_cast (rfl) hW) (by first | exact (if_neg c6).symm | exact (if_pos c6).symm) (by by_cases h : plcF kp x 0 kc = -1 <;> simp only [h, if_true, if_false] <;> rfl) dX1_holds_14
set_option maxHeartbeats 4000000 in
set_option maxRecDepth 100000 in
theorem c_X1_meet (l : Launch) (g : GG) (o q : Nat) (kp : Nat → Int32) (kc : Nat) (x : Int32) (hkc : kc ≤ 8) : fz_C l g yX1_meet cX1_meet 4 none 1 22 [.ref o, .int x] (KW g o q kp kc) (KW g o q (mtP kp kc x) (mtC kp kc x)) none := by
  refine fz_C.of (by decide) (Nat.le_of_ble_eq_true rfl) ?_
  intro p e s m args below meth c A ls X hW hl
  have hx := X.1
  have hb := X.2.1
  have hl : lv_has ls 4 [(0, .ref o), (1, .int x)] := hl
  have X : fz_X p s m meth c RX1 cX1_meet 4 none g A := X
  have hW : fz_W g A s (KW g o q kp kc) s.heap [] := hW
  have hg7 : mtG kp kc x < 8 := by
    unfold mtG
    split
    · split <;> omega
    · rename_i hne
      rcases plcF_in kp x kc 0 with h | ⟨j, h1, h2, h3⟩
      · exact absurd h hne
      · rw [h3, nI_clamp (by omega)]
        omega
  refine lv_aload_n hx hb dX1_meet_0 rfl (lv_at hl 0 rfl) ?_
  refine lv_iload_n hx hb dX1_meet_1 rfl (lv_at hl 1 rfl) ?_
  refine fz_cVi X hW (c_X1_placeOf l g o q kp kc x hkc) lk_X1_25 (ci := 1) (q0 := 0) rfl rfl rfl rfl ⟨Nat.le_of_ble_eq_true rfl, Nat.le_of_ble_eq_true rfl⟩ hl rfl (Nat.le_of_ble_eq_true rfl) dX1_meet_2 ⟨Nat.le_refl _, Nat.le_refl _⟩ (fun H locs hW => ?_)
  refine lv_istore_n (lv' := [(2, .int (plcF kp x 0 kc)), (0, .ref o), (1, .int x)]) hx hb dX1_meet_5 rfl hl (by decide) rfl (fun ls hl => ?_)
  have join37 : ∀ (z : Int32), z = nI (mtG kp kc x) → ∀ (H : Heap) (locs : List Loc) (ls : Array Slot), fz_W g A s (KW g o q kp (mtC kp kc x)) H locs → lv_has ls 4 [(0, .ref o), (1, .int x), (2, .int z)] → W p l e (fz_R 1 0 0 22) s m args below meth c H locs 0 0 (MQ below (fz_Q g (KW g o q (mtP kp kc x) (mtC kp kc x)) none A) args s 0 0 A) (F0 m 37 ls []) := by
    intro z hz H locs ls hW hl
    subst hz
    refine lv_iload_n hx hb dX1_meet_37 rfl (lv_at hl 2 rfl) ?_
    refine lv_istore_n (lv' := [(3, .int (nI (mtG kp kc x))), (0, .ref o), (1, .int x), (2, .int (nI (mtG kp kc x)))]) hx hb dX1_meet_38 rfl hl (by decide) rfl (fun ls hl => ?_)
    have loop39 : ∀ (k : Nat) (i : Nat), i ≤ mtG kp kc x → i < k → ∀ (H : Heap) (locs : List Loc) (ls : Array Slot), fz_W g A s (KW g o q (shF kp (mtG kp kc x) i) (mtC kp kc x)) H locs → lv_has ls 4 [(0, .ref o), (1, .int x), (3, .int (nI i))] → W p l e (fz_R 1 0 0 22) s m args below meth c H locs 0 0 (MQ below (fz_Q g (KW g o q (mtP kp kc x) (mtC kp kc x)) none A) args s 0 0 A) (F0 m 39 ls []) := by
      intro k
      induction k with
      | zero =>
        intro i hi hk
        omega
      | succ k ih39 =>
        intro i hi hk H locs ls hW hl
        refine lv_iload_n hx hb dX1_meet_39 rfl (lv_at hl 2 rfl) ?_
        refine lv_if_le (tgt := 63) hx hb dX1_meet_40 (by decide) (fun c40 => ?_) (fun c40 => ?_)
        · skip
          have h40 : i = 0 := by
            have := (nI_leI (a := i) (b := 0) (by omega) (by omega)).mp c40
            omega
          subst h40
          refine lv_aload_n hx hb dX1_meet_63 rfl (lv_at hl 0 rfl) ?_
          refine gf_X1_9 X hW 0 rfl rfl dX1_meet_64 ?_
          refine lv_iconst (v := 0) hx hb dX1_meet_67 (by decide) ?_
          refine lv_iload_n hx hb dX1_meet_68 rfl (lv_at hl 1 rfl) ?_
          refine fz_is X hW 1 (0) rfl rfl (by omega) (by decide) dX1_meet_69 (fun H locs hW => ?_)
          exact fz_rv X (fz_cast (rfl) hW) dX1_meet_70
        · skip
          obtain ⟨j, rfl⟩ : ∃ j, i = j + 1 := ⟨i - 1, by
            have h40 : ¬ i ≤ 0 := fun z => c40 ((nI_leI (a := i) (b := 0) (by omega) (by omega)).mpr z)
            omega⟩
          refine lv_aload_n hx hb dX1_meet_43 rfl (lv_at hl 0 rfl) ?_
          refine gf_X1_9 X hW 0 rfl rfl dX1_meet_44 ?_
          refine lv_iload_n hx hb dX1_meet_47 rfl (lv_at hl 2 rfl) ?_
          refine lv_aload_n hx hb dX1_meet_48 rfl (lv_at hl 0 rfl) ?_
          refine gf_X1_9 X hW 0 rfl rfl dX1_meet_49 ?_
          refine lv_iload_n hx hb dX1_meet_52 rfl (lv_at hl 2 rfl) ?_
          refine lv_iconst (v := 1) hx hb dX1_meet_53 (by decide) ?_
          refine lv_isub hx hb dX1_meet_54 ?_
          refine fz_il X hW 1 (j) rfl (by exact pk_sub (a := j + 1) (b := 1) (by omega)) (by omega) (by decide) dX1_meet_55 ?_
          refine fz_is X hW 1 (j + 1) rfl rfl (by omega) (by decide) dX1_meet_56 (fun H locs hW => ?_)
          refine lv_iinc (v := nI j) (lv' := [(3, .int (nI j)), (0, .ref o), (1, .int x)]) hx hb dX1_meet_57 hl (k := 2) rfl (pk_m1 j) (by decide) rfl (fun ls hl => ?_)
          refine lv_goto (tgt := 39) hx hb dX1_meet_60 (by decide) ?_
          exact ih39 j (by omega) (by omega) _ _ _ (fz_cast (congrArg (fun z => KW g o q z (mtC kp kc x)) (shF_s kp (mtG kp kc x) j (by omega))) hW) (lv_sub hl [1, 2, 0] rfl)
    exact loop39 (mtG kp kc x + 1) (mtG kp kc x) (Nat.le_refl _) (Nat.lt_succ_self _) _ _ _ (fz_cast (congrArg (fun z => KW g o q z (mtC kp kc x)) (shF_g kp _).symm) hW) (lv_sub hl [1, 2, 0] rfl)
  refine lv_iload_n hx hb dX1_meet_6 rfl (lv_at hl 0 rfl) ?_
  refine lv_iconst (v := (-1)) hx hb dX1_meet_7 (by decide) ?_
  refine lv_icmp_ne (tgt := 37) hx hb dX1_meet_8 (by decide) (fun c8 => ?_) (fun c8 => ?_)
  · skip
    exact join37 _ (by
      rcases plcF_in kp x kc 0 with h | ⟨j, h1, h2, h3⟩
      · exact absurd h c8
      · unfold mtG
        rw [if_neg c8, h3, nI_clamp (by omega)]) _ _ _ (fz_cast (congrArg (fun z => KW g o q kp z) (by unfold mtC; rw [if_neg c8])) hW) (lv_sub hl [1, 2, 0] rfl)
  · skip
    refine lv_aload_n hx hb dX1_meet_11 rfl (lv_at hl 1 rfl) ?_
    refine gf_X1_15 X hW 0 rfl rfl dX1_meet_12 ?_
    refine lv_bipush (v := 8) hx hb dX1_meet_15 (by decide) ?_
    refine lv_icmp_ge (tgt := 30) hx hb dX1_meet_17 (by decide) (fun c17 => ?_) (fun c17 => ?_)
    · skip
      have h17 : 8 ≤ kc := (nI_leI (a := 8) (b := kc) (by omega) (by omega)).mp c17
      refine lv_aload_n hx hb dX1_meet_30 rfl (lv_at hl 1 rfl) ?_
      refine gf_X1_15 X hW 0 rfl rfl dX1_meet_31 ?_
      refine lv_iconst (v := 1) hx hb dX1_meet_34 (by decide) ?_
      refine lv_isub hx hb dX1_meet_35 ?_
      refine lv_istore_n (lv' := [(2, .int ((nI kc) - 1)), (0, .ref o), (1, .int x)]) hx hb dX1_meet_36 rfl hl (by decide) rfl (fun ls hl => ?_)
      exact join37 _ (by
        unfold mtG
        rw [if_pos c8, if_neg (by omega), show kc = 7 + 1 by omega]
        exact nI_pred 7) _ _ _ (fz_cast (congrArg (fun z => KW g o q kp z) (by unfold mtC; rw [if_pos c8, if_neg (by omega)])) hW) (lv_sub hl [1, 2, 0] rfl)
    · skip
      have h17 : kc < 8 := Nat.not_le.mp (fun z => c17 ((nI_leI (a := 8) (b := kc) (by omega) (by omega)).mpr z))
      refine lv_aload_n hx hb dX1_meet_20 rfl (lv_at hl 1 rfl) ?_
      refine lv_dup hx hb dX1_meet_21 rfl ?_
      refine gf_X1_15 X hW 0 rfl rfl dX1_meet_22 ?_
      refine lv_iconst (v := 1) hx hb dX1_meet_25 (by decide) ?_
      refine lv_iadd hx hb dX1_meet_26 ?_
      refine pf_X1_15 X hW 0 rfl (Nat.le_of_ble_eq_true rfl) dX1_meet_27 (fun H locs hW => ?_)
      refine lv_aload_n hx hb dX1_meet_30 rfl (lv_at hl 1 rfl) ?_
      refine gf_X1_15 X hW 0 rfl rfl dX1_meet_31 ?_
      refine lv_iconst (v := 1) hx hb dX1_meet_34 (by decide) ?_
      refine lv_isub hx hb dX1_meet_35 ?_
      refine lv_istore_n (lv' := [(2, .int (((nI kc) + 1) - 1)), (0, .ref o), (1, .int x)]) hx hb dX1_meet_36 rfl hl (by decide) rfl (fun ls hl => ?_)
      exact join37 _ (by
        unfold mtG
        rw [if_pos c8, if_pos h17, nI_1]
        exact nI_pred kc) _ _ _ (fz_cast (by
        have e : mtC kp kc x = kc + 1 := by unfold mtC; rw [if_pos c8, if_pos h17]
        rw [e]
        exact congrArg (fun z => ([(o, .inr (1, [.ref q, .int z])), (q, .inl (g.2 0, 8, .inl kp))] : va_W)) (nI_1 kc)) hW) (lv_sub hl [1, 2, 0] rfl)
set_option maxHeartbeats 4000000 in
set_option maxRecDepth 100000 in
theorem c_X0_set (l : Launch) (g : GG) (o : Nat) (f h : Nat → Nat) : fz_C l g yX0_set cX0_set 7 none 0 0 [.ref o, .int (nI (h 0)), .int (nI (h 1)), .int (nI (h 2)), .int (nI (h 3)), .int (nI (h 4)), .int (nI (h 5))] (([(o, BM f)] : va_W)) (([(o, BM h)] : va_W)) none := by
  refine fz_C.of (by decide) (Nat.le_of_ble_eq_true rfl) ?_
  intro p e s m args below meth c A ls X hW hl
  have hx := X.1
  have hb := X.2.1
  have hl : lv_has ls 7 [(0, .ref o), (1, .int (nI (h 0))), (2, .int (nI (h 1))), (3, .int (nI (h 2))), (4, .int (nI (h 3))), (5, .int (nI (h 4))), (6, .int (nI (h 5)))] := hl
  have X : fz_X p s m meth c RX0 cX0_set 7 none g A := X
  have hW : fz_W g A s (([(o, BM f)] : va_W)) s.heap [] := hW
  refine lv_aload_n hx hb dX0_set_0 rfl (lv_at hl 0 rfl) ?_
  refine lv_iload_n hx hb dX0_set_1 rfl (lv_at hl 1 rfl) ?_
  refine pf_X0_9 X hW 0 rfl (Nat.le_of_ble_eq_true rfl) dX0_set_2 (fun H locs hW => ?_)
  refine lv_aload_n hx hb dX0_set_5 rfl (lv_at hl 0 rfl) ?_
  refine lv_iload_n hx hb dX0_set_6 rfl (lv_at hl 2 rfl) ?_
  refine pf_X0_15 X hW 0 rfl (Nat.le_of_ble_eq_true rfl) dX0_set_7 (fun H locs hW => ?_)
  refine lv_aload_n hx hb dX0_set_10 rfl (lv_at hl 0 rfl) ?_
  refine lv_iload_n hx hb dX0_set_11 rfl (lv_at hl 3 rfl) ?_
  refine pf_X0_18 X hW 0 rfl (Nat.le_of_ble_eq_true rfl) dX0_set_12 (fun H locs hW => ?_)
  refine lv_aload_n hx hb dX0_set_15 rfl (lv_at hl 0 rfl) ?_
  refine lv_iload hx hb dX0_set_16 (lv_at hl 4 rfl) ?_
  refine pf_X0_21 X hW 0 rfl (Nat.le_of_ble_eq_true rfl) dX0_set_18 (fun H locs hW => ?_)
  refine lv_aload_n hx hb dX0_set_21 rfl (lv_at hl 0 rfl) ?_
  refine lv_iload hx hb dX0_set_22 (lv_at hl 5 rfl) ?_
  refine pf_X0_24 X hW 0 rfl (Nat.le_of_ble_eq_true rfl) dX0_set_24 (fun H locs hW => ?_)
  refine lv_aload_n hx hb dX0_set_27 rfl (lv_at hl 0 rfl) ?_
  refine lv_iload hx hb dX0_set_28 (lv_at hl 6 rfl) ?_
  refine pf_X0_27 X hW 0 rfl (Nat.le_of_ble_eq_true rfl) dX0_set_30 (fun H locs hW => ?_)
  exact fz_rv X (fz_cast (rfl) hW) dX0_set_33
theorem fz_C.fr {l : Launch} {g : GG} {y : MethodName} {b : ByteArray} {n : Nat} {ret : Option FieldType} {rf rl : Nat} {as : List Value} {wc w1 : va_W} {v : Option Value} (h : fz_C l g y b n ret rf rl as wc w1 v) {ws ws1 : va_W} (isC isR isX : List Nat)
    (hC : isC.map (fun i => ws[i]?) = wc.map some) (hc : va_nd isC = true) (hR : isR.map (fun i => ws[i]?) = (isR.filterMap (fun i => ws[i]?)).map some) (hn : va_nd isR = true) (hdis : ∀ i ∈ isR, i ∉ isC) (hX : isX.map (fun i => (isR.filterMap (fun i => ws[i]?) ++ w1)[i]?) = ws1.map some) (hx : va_nd isX = true) : fz_C l g y b n ret rf rl as ws ws1 v := fz_C.frame h isC isR isX hC hc hR hn hdis hX hx
theorem c_X0_set2 (l : Launch) (g : GG) (o q : Nat) (f h k : Nat → Nat) : fz_C l g yX0_set cX0_set 7 none 0 0 [.ref o, .int (nI (h 0)), .int (nI (h 1)), .int (nI (h 2)), .int (nI (h 3)), .int (nI (h 4)), .int (nI (h 5))] (([(o, BM f), (q, BM k)] : va_W)) (([(o, BM h), (q, BM k)] : va_W)) none := fz_C.fr (c_X0_set l g o f h) [0] [1] [1, 0] rfl rfl rfl rfl (by decide) rfl rfl
set_option maxHeartbeats 4000000 in
set_option maxRecDepth 100000 in
theorem c_X0_copyFrom (l : Launch) (g : GG) (o q : Nat) (f h : Nat → Nat) : fz_C l g yX0_copyFrom cX0_copyFrom 2 none 1 26 [.ref o, .ref q] (([(o, BM f), (q, BM h)] : va_W)) (([(o, BM h), (q, BM h)] : va_W)) none := by
  refine fz_C.of (by decide) (Nat.le_of_ble_eq_true rfl) ?_
  intro p e s m args below meth c A ls X hW hl
  have hx := X.1
  have hb := X.2.1
  have hl : lv_has ls 2 [(0, .ref o), (1, .ref q)] := hl
  have X : fz_X p s m meth c RX0 cX0_copyFrom 2 none g A := X
  have hW : fz_W g A s (([(o, BM f), (q, BM h)] : va_W)) s.heap [] := hW
  refine lv_aload_n hx hb dX0_copyFrom_0 rfl (lv_at hl 0 rfl) ?_
  refine lv_aload_n hx hb dX0_copyFrom_1 rfl (lv_at hl 1 rfl) ?_
  refine gf_X0_9 X hW 1 rfl rfl dX0_copyFrom_2 ?_
  refine lv_aload_n hx hb dX0_copyFrom_5 rfl (lv_at hl 1 rfl) ?_
  refine gf_X0_15 X hW 1 rfl rfl dX0_copyFrom_6 ?_
  refine lv_aload_n hx hb dX0_copyFrom_9 rfl (lv_at hl 1 rfl) ?_
  refine gf_X0_18 X hW 1 rfl rfl dX0_copyFrom_10 ?_
  refine lv_aload_n hx hb dX0_copyFrom_13 rfl (lv_at hl 1 rfl) ?_
  refine gf_X0_21 X hW 1 rfl rfl dX0_copyFrom_14 ?_
  refine lv_aload_n hx hb dX0_copyFrom_17 rfl (lv_at hl 1 rfl) ?_
  refine gf_X0_24 X hW 1 rfl rfl dX0_copyFrom_18 ?_
  refine lv_aload_n hx hb dX0_copyFrom_21 rfl (lv_at hl 1 rfl) ?_
  refine gf_X0_27 X hW 1 rfl rfl dX0_copyFrom_22 ?_
  refine fz_cVv X hW (c_X0_set2 l g o q f h h) lk_X0_30 (ci := 0) (q0 := 0) rfl rfl rfl rfl ⟨Nat.le_of_ble_eq_true rfl, Nat.le_of_ble_eq_true rfl⟩ hl rfl (Nat.le_of_ble_eq_true rfl) dX0_copyFrom_25 ⟨Nat.le_refl _, Nat.le_refl _⟩ (fun H locs hW => ?_)
  exact fz_rv X (fz_cast (rfl) hW) dX0_copyFrom_28
set_option maxHeartbeats 4000000 in
set_option maxRecDepth 100000 in
theorem c_X0_copySelf (l : Launch) (g : GG) (o : Nat) (f : Nat → Nat) : fz_C l g yX0_copyFrom cX0_copyFrom 2 none 1 26 [.ref o, .ref o] (([(o, BM f)] : va_W)) (([(o, BM f)] : va_W)) none := by
  refine fz_C.of (by decide) (Nat.le_of_ble_eq_true rfl) ?_
  intro p e s m args below meth c A ls X hW hl
  have hx := X.1
  have hb := X.2.1
  have hl : lv_has ls 2 [(0, .ref o), (1, .ref o)] := hl
  have X : fz_X p s m meth c RX0 cX0_copyFrom 2 none g A := X
  have hW : fz_W g A s (([(o, BM f)] : va_W)) s.heap [] := hW
  refine lv_aload_n hx hb dX0_copyFrom_0 rfl (lv_at hl 0 rfl) ?_
  refine lv_aload_n hx hb dX0_copyFrom_1 rfl (lv_at hl 1 rfl) ?_
  refine gf_X0_9 X hW 0 rfl rfl dX0_copyFrom_2 ?_
  refine lv_aload_n hx hb dX0_copyFrom_5 rfl (lv_at hl 1 rfl) ?_
  refine gf_X0_15 X hW 0 rfl rfl dX0_copyFrom_6 ?_
  refine lv_aload_n hx hb dX0_copyFrom_9 rfl (lv_at hl 1 rfl) ?_
  refine gf_X0_18 X hW 0 rfl rfl dX0_copyFrom_10 ?_
  refine lv_aload_n hx hb dX0_copyFrom_13 rfl (lv_at hl 1 rfl) ?_
  refine gf_X0_21 X hW 0 rfl rfl dX0_copyFrom_14 ?_
  refine lv_aload_n hx hb dX0_copyFrom_17 rfl (lv_at hl 1 rfl) ?_
  refine gf_X0_24 X hW 0 rfl rfl dX0_copyFrom_18 ?_
  refine lv_aload_n hx hb dX0_copyFrom_21 rfl (lv_at hl 1 rfl) ?_
  refine gf_X0_27 X hW 0 rfl rfl dX0_copyFrom_22 ?_
  refine fz_cVv X hW (c_X0_set l g o f f) lk_X0_30 (ci := 0) (q0 := 0) rfl rfl rfl rfl ⟨Nat.le_of_ble_eq_true rfl, Nat.le_of_ble_eq_true rfl⟩ hl rfl (Nat.le_of_ble_eq_true rfl) dX0_copyFrom_25 ⟨Nat.le_refl _, Nat.le_refl _⟩ (fun H locs hW => ?_)
  exact fz_rv X (fz_cast (rfl) hW) dX0_copyFrom_28
theorem fz_tl (x y : Nat) : 8 * nI y + nI x = nI (8 * y + x) := by
  show nI 8 * nI y + nI x = _
  rw [pk_mul, nI_add]
theorem fz_tl2 (a b c d : Nat) : 8 * (nI c + nI d) + (nI a + nI b) = nI (8 * (c + d) + (a + b)) := by
  rw [nI_add, nI_add, fz_tl]
set_option maxHeartbeats 4000000 in
set_option maxRecDepth 100000 in
theorem c_X0_applyTo (l : Launch) (g : GG) (o q b : Nat) (f : Nat → Nat) (scr bef : Nat → Int32) (hm : MOK f) : fz_C l g yX0_applyTo cX0_applyTo 5 none 1 32 [.ref o, .ref q, .ref b] (AW g o q b f scr bef) (AW g o q b f (apF f scr bef) (fz_to scr bef 48)) none := by
  refine fz_C.of (by decide) (Nat.le_of_ble_eq_true rfl) ?_
  intro p e s m args below meth c A ls X hW hl
  have hx := X.1
  have hb := X.2.1
  have hl : lv_has ls 5 [(0, .ref o), (1, .ref q), (2, .ref b)] := hl
  have X : fz_X p s m meth c RX0 cX0_applyTo 5 none g A := X
  have hW : fz_W g A s (AW g o q b f scr bef) s.heap [] := hW
  obtain ⟨m1, m2, m3, m4⟩ := hm
  refine lv_aload_n hx hb dX0_applyTo_0 rfl (lv_at hl 1 rfl) ?_
  refine lv_iconst (v := 0) hx hb dX0_applyTo_1 (by decide) ?_
  refine lv_aload_n hx hb dX0_applyTo_2 rfl (lv_at hl 2 rfl) ?_
  refine lv_iconst (v := 0) hx hb dX0_applyTo_3 (by decide) ?_
  refine lv_bipush (v := 48) hx hb dX0_applyTo_4 (by decide) ?_
  refine fz_ac_X0 X hW hl 1 2 rfl rfl 48 (by decide) (by decide) (by decide) rfl (Nat.le_of_ble_eq_true rfl) (Nat.le_of_ble_eq_true rfl) dX0_applyTo_6 (fun H locs hW => ?_)
  refine lv_iconst (v := 0) hx hb dX0_applyTo_9 (by decide) ?_
  refine lv_istore_n (lv' := [(3, .int 0), (0, .ref o), (1, .ref q), (2, .ref b)]) hx hb dX0_applyTo_10 rfl hl (by decide) rfl (fun ls hl => ?_)
  have loop11 : ∀ (k : Nat) (i : Nat), i ≤ f 3 → f 3 < i + k → ∀ (H : Heap) (locs : List Loc) (ls : Array Slot), fz_W g A s (AW g o q b f (apR f (fz_to scr bef 48) scr i) (fz_to scr bef 48)) H locs → lv_has ls 5 [(0, .ref o), (1, .ref q), (2, .ref b), (3, .int (nI i))] → W p l e (fz_R 1 0 0 32) s m args below meth c H locs 0 0 (MQ below (fz_Q g (AW g o q b f (apF f scr bef) (fz_to scr bef 48)) none A) args s 0 0 A) (F0 m 11 ls []) := by
    intro k
    induction k with
    | zero =>
      intro i hi hk
      omega
    | succ k ih11 =>
      intro i hi hki H locs ls hW hl
      refine lv_iload_n hx hb dX0_applyTo_11 rfl (lv_at hl 3 rfl) ?_
      refine lv_aload_n hx hb dX0_applyTo_12 rfl (lv_at hl 0 rfl) ?_
      refine gf_X0_21 X hW 0 rfl rfl dX0_applyTo_13 ?_
      refine lv_icmp_ge (tgt := 79) hx hb dX0_applyTo_16 (by decide) (fun c16 => ?_) (fun c16 => ?_)
      · skip
        have h16 : f 3 ≤ i := (nI_leI (a := f 3) (b := i) (by omega) (by omega)).mp c16
        have e16 : i = f 3 := by omega
        have hl := lv_sub hl [0, 1, 2] rfl
        have hl : lv_has ls 5 [(0, .ref o), (1, .ref q), (2, .ref b)] := hl
        exact fz_rv X (fz_cast (by rw [e16]; rfl) hW) dX0_applyTo_79
      · skip
        have h16 : i < f 3 := Nat.not_le.mp (fun z => c16 ((nI_leI (a := f 3) (b := i) (by omega) (by omega)).mpr z))
        refine lv_iconst (v := 0) hx hb dX0_applyTo_19 (by decide) ?_
        refine lv_istore (lv' := [(4, .int 0), (0, .ref o), (1, .ref q), (2, .ref b), (3, .int (nI i))]) hx hb dX0_applyTo_20 hl (by decide) rfl (fun ls hl => ?_)
        have loop22 : ∀ (k : Nat) (j : Nat), j ≤ f 2 → f 2 < j + k → ∀ (H : Heap) (locs : List Loc) (ls : Array Slot), fz_W g A s (AW g o q b f (apC f (fz_to scr bef 48) i (apR f (fz_to scr bef 48) scr i) j) (fz_to scr bef 48)) H locs → lv_has ls 5 [(0, .ref o), (1, .ref q), (2, .ref b), (3, .int (nI i)), (4, .int (nI j))] → W p l e (fz_R 1 0 0 32) s m args below meth c H locs 0 0 (MQ below (fz_Q g (AW g o q b f (apF f scr bef) (fz_to scr bef 48)) none A) args s 0 0 A) (F0 m 22 ls []) := by
          intro k
          induction k with
          | zero =>
            intro j hj hk
            omega
          | succ k ih22 =>
            intro j hj hkj H locs ls hW hl
            refine lv_iload hx hb dX0_applyTo_22 (lv_at hl 4 rfl) ?_
            refine lv_aload_n hx hb dX0_applyTo_24 rfl (lv_at hl 0 rfl) ?_
            refine gf_X0_18 X hW 0 rfl rfl dX0_applyTo_25 ?_
            refine lv_icmp_ge (tgt := 73) hx hb dX0_applyTo_28 (by decide) (fun c28 => ?_) (fun c28 => ?_)
            · skip
              have h28 : f 2 ≤ j := (nI_leI (a := f 2) (b := j) (by omega) (by omega)).mp c28
              have e28 : j = f 2 := by omega
              have hl := lv_sub hl [0, 1, 2, 3] rfl
              have hl : lv_has ls 5 [(0, .ref o), (1, .ref q), (2, .ref b), (3, .int (nI i))] := hl
              refine lv_iinc (v := nI (i + 1)) (lv' := [(3, .int (nI (i + 1))), (0, .ref o), (1, .ref q), (2, .ref b)]) hx hb dX0_applyTo_73 hl (k := 3) rfl (nI_1 _) (by decide) rfl (fun ls hl => ?_)
              refine lv_goto (tgt := 11) hx hb dX0_applyTo_76 (by decide) ?_
              exact ih11 (i + 1) (by omega) (by omega) _ _ _ (fz_cast (by rw [e28]; rfl) hW) (lv_sub hl [1, 2, 3, 0] rfl)
            · skip
              have h28 : j < f 2 := Nat.not_le.mp (fun z => c28 ((nI_leI (a := f 2) (b := j) (by omega) (by omega)).mpr z))
              refine lv_aload_n hx hb dX0_applyTo_31 rfl (lv_at hl 1 rfl) ?_
              refine lv_aload_n hx hb dX0_applyTo_32 rfl (lv_at hl 0 rfl) ?_
              refine gf_X0_24 X hW 0 rfl rfl dX0_applyTo_33 ?_
              refine lv_iload hx hb dX0_applyTo_36 (lv_at hl 4 rfl) ?_
              refine lv_iadd hx hb dX0_applyTo_38 ?_
              refine lv_aload_n hx hb dX0_applyTo_39 rfl (lv_at hl 0 rfl) ?_
              refine gf_X0_27 X hW 0 rfl rfl dX0_applyTo_40 ?_
              refine lv_iload_n hx hb dX0_applyTo_43 rfl (lv_at hl 3 rfl) ?_
              refine lv_iadd hx hb dX0_applyTo_44 ?_
              refine fz_cNi X hW (c_X3_tileAt l g _ _ _) lk_X0_40 rfl ⟨Nat.le_of_ble_eq_true rfl, Nat.le_of_ble_eq_true rfl⟩ hl rfl (Nat.le_of_ble_eq_true rfl) dX0_applyTo_45 ⟨Nat.le_refl _, Nat.le_refl _⟩ (fun H locs hW => ?_)
              refine lv_aload_n hx hb dX0_applyTo_48 rfl (lv_at hl 2 rfl) ?_
              refine lv_aload_n hx hb dX0_applyTo_49 rfl (lv_at hl 0 rfl) ?_
              refine gf_X0_9 X hW 0 rfl rfl dX0_applyTo_50 ?_
              refine lv_iload hx hb dX0_applyTo_53 (lv_at hl 4 rfl) ?_
              refine lv_iadd hx hb dX0_applyTo_55 ?_
              refine lv_aload_n hx hb dX0_applyTo_56 rfl (lv_at hl 0 rfl) ?_
              refine gf_X0_15 X hW 0 rfl rfl dX0_applyTo_57 ?_
              refine lv_iload_n hx hb dX0_applyTo_60 rfl (lv_at hl 3 rfl) ?_
              refine lv_iadd hx hb dX0_applyTo_61 ?_
              refine fz_cNi X hW (c_X3_tileAt l g _ _ _) lk_X0_40 rfl ⟨Nat.le_of_ble_eq_true rfl, Nat.le_of_ble_eq_true rfl⟩ hl rfl (Nat.le_of_ble_eq_true rfl) dX0_applyTo_62 ⟨Nat.le_refl _, Nat.le_refl _⟩ (fun H locs hW => ?_)
              refine fz_il X hW 2 (8 * (f 1 + i) + (f 0 + j)) rfl (fz_tl2 _ _ _ _) (by omega) (by decide) dX0_applyTo_65 ?_
              refine fz_is X hW 1 (8 * (f 5 + i) + (f 4 + j)) rfl (fz_tl2 _ _ _ _) (by omega) (by decide) dX0_applyTo_66 (fun H locs hW => ?_)
              refine lv_iinc (v := nI (j + 1)) (lv' := [(4, .int (nI (j + 1))), (0, .ref o), (1, .ref q), (2, .ref b), (3, .int (nI i))]) hx hb dX0_applyTo_67 hl (k := 4) rfl (nI_1 _) (by decide) rfl (fun ls hl => ?_)
              refine lv_goto (tgt := 22) hx hb dX0_applyTo_70 (by decide) ?_
              exact ih22 (j + 1) (by omega) (by omega) _ _ _ (fz_cast (rfl) hW) (lv_sub hl [1, 2, 3, 4, 0] rfl)
        exact loop22 (f 2 + 1) 0 (by omega) (by omega) _ _ _ (fz_cast (rfl) hW) (lv_sub hl [1, 2, 3, 4, 0] rfl)
  exact loop11 (f 3 + 1) 0 (by omega) (by omega) _ _ _ (fz_cast (rfl) hW) (lv_sub hl [1, 2, 3, 0] rfl)
set_option maxHeartbeats 4000000 in
set_option maxRecDepth 100000 in
theorem c_X1_copyFrom (l : Launch) (g : GG) (o q o2 q2 : Nat) (kp kp2 : Nat → Int32) (kc kc2 : Nat) : fz_C l g yX1_copyFrom cX1_copyFrom 2 none 1 32 [.ref o, .ref o2] (KW g o q kp kc ++ KW g o2 q2 kp2 kc2) (KW g o q (fz_to kp2 kp 8) kc2 ++ KW g o2 q2 kp2 kc2) none := by
  refine fz_C.of (by decide) (Nat.le_of_ble_eq_true rfl) ?_
  intro p e s m args below meth c A ls X hW hl
  have hx := X.1
  have hb := X.2.1
  have hl : lv_has ls 2 [(0, .ref o), (1, .ref o2)] := hl
  have X : fz_X p s m meth c RX1 cX1_copyFrom 2 none g A := X
  have hW : fz_W g A s (KW g o q kp kc ++ KW g o2 q2 kp2 kc2) s.heap [] := hW
  refine lv_aload_n hx hb dX1_copyFrom_0 rfl (lv_at hl 1 rfl) ?_
  refine gf_X1_9 X hW 2 rfl rfl dX1_copyFrom_1 ?_
  refine lv_iconst (v := 0) hx hb dX1_copyFrom_4 (by decide) ?_
  refine lv_aload_n hx hb dX1_copyFrom_5 rfl (lv_at hl 0 rfl) ?_
  refine gf_X1_9 X hW 0 rfl rfl dX1_copyFrom_6 ?_
  refine lv_iconst (v := 0) hx hb dX1_copyFrom_9 (by decide) ?_
  refine lv_bipush (v := 8) hx hb dX1_copyFrom_10 (by decide) ?_
  refine fz_ac_X1 X hW hl 3 1 rfl rfl 8 (by decide) (by decide) (by decide) rfl (Nat.le_of_ble_eq_true rfl) (Nat.le_of_ble_eq_true rfl) dX1_copyFrom_12 (fun H locs hW => ?_)
  refine lv_aload_n hx hb dX1_copyFrom_15 rfl (lv_at hl 0 rfl) ?_
  refine lv_aload_n hx hb dX1_copyFrom_16 rfl (lv_at hl 1 rfl) ?_
  refine gf_X1_15 X hW 2 rfl rfl dX1_copyFrom_17 ?_
  refine pf_X1_15 X hW 0 rfl (Nat.le_of_ble_eq_true rfl) dX1_copyFrom_20 (fun H locs hW => ?_)
  exact fz_rv X (fz_cast (rfl) hW) dX1_copyFrom_23
theorem fz_abs {p : Program} {l : Launch} {e : Env} {R : Room} {s : State} {m : MethodId} {args : Array Value} {below : List Frame} {meth : Method} {c : Code} {H : Heap} {locs : List Loc} {cells slots : Nat} {Q : State → Prop} {cc : ByteArray} {n : Nat} {ret : Option FieldType} {g : GG} {A : Nat → Prop} {pc : Nat} {ls : Array Slot} {rest : List Value} {lv : List (Nat × Value)} (X : fz_X p s m meth c RX2 cc n ret g A) (hl : lv_has ls n lv) (hfr : 1 ≤ R.frames) (hlo : (rest.map fun v => v.category).sum + 13 ≤ R.locals) {x : Int32} (hdg : decode cc pc = .ok (.invokestatic 143, 3)) (hcs : cells ≤ R.cells ∧ slots ≤ R.slots)
    (kk : W p l e R s m args below meth c H locs cells slots Q (F0 m (pc + 3) ls (.int (absI x) :: rest))) : W p l e R s m args below meth c H locs cells slots Q (F0 m pc ls (.int x :: rest)) := by
  have hE := X.2.2.2.2.2.2.1
  obtain ⟨⟨h1, h2, -⟩, h3, h4⟩ := lk_X2_143
  exact va_mabs X.1 X.2.1 (X.2.2.2.1.trans hl.1.symm) X.2.2.2.2.1 (hE.use h3 args) (hE.use h4 args) (hE.use h1 args) (hE.use h2 args) hfr hlo hcs.1 hcs.2 hdg kk
set_option maxHeartbeats 4000000 in
set_option maxRecDepth 100000 in
theorem c_J6_bitCount_0f7a4 (l : Launch) (g : GG) (x : Int32) (ws : va_W) : fz_C l g yJ6_bitCount_0f7a4 cJ6_bitCount_0f7a4 1 (some .int) 0 0 [.int x] (ws) (ws) (some (.int (bcI x))) := by
  refine fz_C.of (by decide) (Nat.le_of_ble_eq_true rfl) ?_
  intro p e s m args below meth c A ls X hW hl
  have hx := X.1
  have hb := X.2.1
  have hl : lv_has ls 1 [(0, .int x)] := hl
  have X : fz_X p s m meth c RJ6 cJ6_bitCount_0f7a4 1 (some .int) g A := X
  have hW : fz_W g A s (ws) s.heap [] := hW
  refine lv_iload_n hx hb dJ6_bitCount_0f7a4_0 rfl (lv_at hl 0 rfl) ?_
  refine lv_iload_n hx hb dJ6_bitCount_0f7a4_1 rfl (lv_at hl 0 rfl) ?_
  refine lv_iconst (v := 1) hx hb dJ6_bitCount_0f7a4_2 (by decide) ?_
  refine lv_iushr hx hb dJ6_bitCount_0f7a4_3 rfl ?_
  refine lv_ldcw hx hb X.2.2.2.2.1 (X.2.2.2.2.2.2.1.use mk_434 args) dJ6_bitCount_0f7a4_4 ?_
  refine lv_iand hx hb dJ6_bitCount_0f7a4_7 ?_
  refine lv_isub hx hb dJ6_bitCount_0f7a4_8 ?_
  refine lv_topi (fun y1 e_y1 => ?_)
  refine lv_istore_n (lv' := [(0, .int y1)]) hx hb dJ6_bitCount_0f7a4_9 rfl hl (by decide) rfl (fun ls hl => ?_)
  refine lv_iload_n hx hb dJ6_bitCount_0f7a4_10 rfl (lv_at hl 0 rfl) ?_
  refine lv_ldcw hx hb X.2.2.2.2.1 (X.2.2.2.2.2.2.1.use mk_435 args) dJ6_bitCount_0f7a4_11 ?_
  refine lv_iand hx hb dJ6_bitCount_0f7a4_14 ?_
  refine lv_iload_n hx hb dJ6_bitCount_0f7a4_15 rfl (lv_at hl 0 rfl) ?_
  refine lv_iconst (v := 2) hx hb dJ6_bitCount_0f7a4_16 (by decide) ?_
  refine lv_iushr hx hb dJ6_bitCount_0f7a4_17 rfl ?_
  refine lv_ldcw hx hb X.2.2.2.2.1 (X.2.2.2.2.2.2.1.use mk_435 args) dJ6_bitCount_0f7a4_18 ?_
  refine lv_iand hx hb dJ6_bitCount_0f7a4_21 ?_
  refine lv_iadd hx hb dJ6_bitCount_0f7a4_22 ?_
  refine lv_topi (fun y2 e_y2 => ?_)
  refine lv_istore_n (lv' := [(0, .int y2)]) hx hb dJ6_bitCount_0f7a4_23 rfl hl (by decide) rfl (fun ls hl => ?_)
  refine lv_iload_n hx hb dJ6_bitCount_0f7a4_24 rfl (lv_at hl 0 rfl) ?_
  refine lv_iload_n hx hb dJ6_bitCount_0f7a4_25 rfl (lv_at hl 0 rfl) ?_
  refine lv_iconst (v := 4) hx hb dJ6_bitCount_0f7a4_26 (by decide) ?_
  refine lv_iushr hx hb dJ6_bitCount_0f7a4_27 rfl ?_
  refine lv_iadd hx hb dJ6_bitCount_0f7a4_28 ?_
  refine lv_ldcw hx hb X.2.2.2.2.1 (X.2.2.2.2.2.2.1.use mk_436 args) dJ6_bitCount_0f7a4_29 ?_
  refine lv_iand hx hb dJ6_bitCount_0f7a4_32 ?_
  refine lv_topi (fun y3 e_y3 => ?_)
  refine lv_istore_n (lv' := [(0, .int y3)]) hx hb dJ6_bitCount_0f7a4_33 rfl hl (by decide) rfl (fun ls hl => ?_)
  refine lv_iload_n hx hb dJ6_bitCount_0f7a4_34 rfl (lv_at hl 0 rfl) ?_
  refine lv_iload_n hx hb dJ6_bitCount_0f7a4_35 rfl (lv_at hl 0 rfl) ?_
  refine lv_bipush (v := 8) hx hb dJ6_bitCount_0f7a4_36 (by decide) ?_
  refine lv_iushr hx hb dJ6_bitCount_0f7a4_38 rfl ?_
  refine lv_iadd hx hb dJ6_bitCount_0f7a4_39 ?_
  refine lv_topi (fun y4 e_y4 => ?_)
  refine lv_istore_n (lv' := [(0, .int y4)]) hx hb dJ6_bitCount_0f7a4_40 rfl hl (by decide) rfl (fun ls hl => ?_)
  refine lv_iload_n hx hb dJ6_bitCount_0f7a4_41 rfl (lv_at hl 0 rfl) ?_
  refine lv_iload_n hx hb dJ6_bitCount_0f7a4_42 rfl (lv_at hl 0 rfl) ?_
  refine lv_bipush (v := 16) hx hb dJ6_bitCount_0f7a4_43 (by decide) ?_
  refine lv_iushr hx hb dJ6_bitCount_0f7a4_45 rfl ?_
  refine lv_iadd hx hb dJ6_bitCount_0f7a4_46 ?_
  refine lv_topi (fun y5 e_y5 => ?_)
  refine lv_istore_n (lv' := [(0, .int y5)]) hx hb dJ6_bitCount_0f7a4_47 rfl hl (by decide) rfl (fun ls hl => ?_)
  refine lv_iload_n hx hb dJ6_bitCount_0f7a4_48 rfl (lv_at hl 0 rfl) ?_
  refine lv_bipush (v := 63) hx hb dJ6_bitCount_0f7a4_49 (by decide) ?_
  refine lv_iand hx hb dJ6_bitCount_0f7a4_51 ?_
  exact fz_ri X (fz_cast (rfl) hW) (by subst e_y5; subst e_y4; subst e_y3; subst e_y2; subst e_y1; rfl) dJ6_bitCount_0f7a4_52
set_option maxHeartbeats 4000000 in
set_option maxRecDepth 100000 in
theorem c_J13_bitCount_95d88 (l : Launch) (g : GG) (x : Int64) (ws : va_W) : fz_C l g yJ13_bitCount_95d88 cJ13_bitCount_95d88 2 (some .int) 0 0 [.long x] (ws) (ws) (some (.int (bcL x))) := by
  refine fz_C.of (by decide) (Nat.le_of_ble_eq_true rfl) ?_
  intro p e s m args below meth c A ls X hW hl
  have hx := X.1
  have hb := X.2.1
  have hl : lv_has ls 2 [(0, .long x)] := hl
  have X : fz_X p s m meth c RJ13 cJ13_bitCount_95d88 2 (some .int) g A := X
  have hW : fz_W g A s (ws) s.heap [] := hW
  refine lv_lload_n hx hb dJ13_bitCount_95d88_0 rfl (lv_at hl 0 rfl) ?_
  refine lv_lload_n hx hb dJ13_bitCount_95d88_1 rfl (lv_at hl 0 rfl) ?_
  refine lv_iconst (v := 1) hx hb dJ13_bitCount_95d88_2 (by decide) ?_
  refine lv_lushr hx hb dJ13_bitCount_95d88_3 rfl ?_
  refine lv_ldc2 hx hb X.2.2.2.2.1 (X.2.2.2.2.2.2.1.use mk_323 args) dJ13_bitCount_95d88_4 ?_
  refine lv_land hx hb dJ13_bitCount_95d88_7 ?_
  refine lv_lsub hx hb dJ13_bitCount_95d88_8 ?_
  refine lv_topl (fun y1 e_y1 => ?_)
  refine lv_lstore_n (lv' := [(0, .long y1)]) hx hb dJ13_bitCount_95d88_9 rfl hl (by decide) rfl (fun ls hl => ?_)
  refine lv_lload_n hx hb dJ13_bitCount_95d88_10 rfl (lv_at hl 0 rfl) ?_
  refine lv_ldc2 hx hb X.2.2.2.2.1 (X.2.2.2.2.2.2.1.use mk_324 args) dJ13_bitCount_95d88_11 ?_
  refine lv_land hx hb dJ13_bitCount_95d88_14 ?_
  refine lv_lload_n hx hb dJ13_bitCount_95d88_15 rfl (lv_at hl 0 rfl) ?_
  refine lv_iconst (v := 2) hx hb dJ13_bitCount_95d88_16 (by decide) ?_
  refine lv_lushr hx hb dJ13_bitCount_95d88_17 rfl ?_
  refine lv_ldc2 hx hb X.2.2.2.2.1 (X.2.2.2.2.2.2.1.use mk_324 args) dJ13_bitCount_95d88_18 ?_
  refine lv_land hx hb dJ13_bitCount_95d88_21 ?_
  refine lv_ladd hx hb dJ13_bitCount_95d88_22 ?_
  refine lv_topl (fun y2 e_y2 => ?_)
  refine lv_lstore_n (lv' := [(0, .long y2)]) hx hb dJ13_bitCount_95d88_23 rfl hl (by decide) rfl (fun ls hl => ?_)
  refine lv_lload_n hx hb dJ13_bitCount_95d88_24 rfl (lv_at hl 0 rfl) ?_
  refine lv_lload_n hx hb dJ13_bitCount_95d88_25 rfl (lv_at hl 0 rfl) ?_
  refine lv_iconst (v := 4) hx hb dJ13_bitCount_95d88_26 (by decide) ?_
  refine lv_lushr hx hb dJ13_bitCount_95d88_27 rfl ?_
  refine lv_ladd hx hb dJ13_bitCount_95d88_28 ?_
  refine lv_ldc2 hx hb X.2.2.2.2.1 (X.2.2.2.2.2.2.1.use mk_325 args) dJ13_bitCount_95d88_29 ?_
  refine lv_land hx hb dJ13_bitCount_95d88_32 ?_
  refine lv_topl (fun y3 e_y3 => ?_)
  refine lv_lstore_n (lv' := [(0, .long y3)]) hx hb dJ13_bitCount_95d88_33 rfl hl (by decide) rfl (fun ls hl => ?_)
  refine lv_lload_n hx hb dJ13_bitCount_95d88_34 rfl (lv_at hl 0 rfl) ?_
  refine lv_lload_n hx hb dJ13_bitCount_95d88_35 rfl (lv_at hl 0 rfl) ?_
  refine lv_bipush (v := 8) hx hb dJ13_bitCount_95d88_36 (by decide) ?_
  refine lv_lushr hx hb dJ13_bitCount_95d88_38 rfl ?_
  refine lv_ladd hx hb dJ13_bitCount_95d88_39 ?_
  refine lv_topl (fun y4 e_y4 => ?_)
  refine lv_lstore_n (lv' := [(0, .long y4)]) hx hb dJ13_bitCount_95d88_40 rfl hl (by decide) rfl (fun ls hl => ?_)
  refine lv_lload_n hx hb dJ13_bitCount_95d88_41 rfl (lv_at hl 0 rfl) ?_
  refine lv_lload_n hx hb dJ13_bitCount_95d88_42 rfl (lv_at hl 0 rfl) ?_
  refine lv_bipush (v := 16) hx hb dJ13_bitCount_95d88_43 (by decide) ?_
  refine lv_lushr hx hb dJ13_bitCount_95d88_45 rfl ?_
  refine lv_ladd hx hb dJ13_bitCount_95d88_46 ?_
  refine lv_topl (fun y5 e_y5 => ?_)
  refine lv_lstore_n (lv' := [(0, .long y5)]) hx hb dJ13_bitCount_95d88_47 rfl hl (by decide) rfl (fun ls hl => ?_)
  refine lv_lload_n hx hb dJ13_bitCount_95d88_48 rfl (lv_at hl 0 rfl) ?_
  refine lv_lload_n hx hb dJ13_bitCount_95d88_49 rfl (lv_at hl 0 rfl) ?_
  refine lv_bipush (v := 32) hx hb dJ13_bitCount_95d88_50 (by decide) ?_
  refine lv_lushr hx hb dJ13_bitCount_95d88_52 rfl ?_
  refine lv_ladd hx hb dJ13_bitCount_95d88_53 ?_
  refine lv_topl (fun y6 e_y6 => ?_)
  refine lv_lstore_n (lv' := [(0, .long y6)]) hx hb dJ13_bitCount_95d88_54 rfl hl (by decide) rfl (fun ls hl => ?_)
  refine lv_lload_n hx hb dJ13_bitCount_95d88_55 rfl (lv_at hl 0 rfl) ?_
  refine lv_l2i hx hb dJ13_bitCount_95d88_56 rfl ?_
  refine lv_bipush (v := 127) hx hb dJ13_bitCount_95d88_57 (by decide) ?_
  refine lv_iand hx hb dJ13_bitCount_95d88_59 ?_
  exact fz_ri X (fz_cast (rfl) hW) (by subst e_y6; subst e_y5; subst e_y4; subst e_y3; subst e_y2; subst e_y1; rfl) dJ13_bitCount_95d88_60
end
section
set_option maxRecDepth 100000 in
theorem cs_meet (l : Launch) (g : GG) (a : Nat → Nat) (v : SV) (x : Int32) (hkc : v.kc ≤ 8) : fz_C l g yX1_meet cX1_meet 4 none 1 22 [.ref (a 9), .int x] (SW g a v) (SW g a (knV v (mtP v.kp v.kc x) (mtC v.kp v.kc x))) none := fz_C.fr (c_X1_meet l g (a 9) (a 10) v.kp v.kc x hkc) [9, 10] [0, 1, 2, 3, 4, 5, 6, 7, 8, 11, 12, 13, 14, 15, 16] [0, 1, 2, 3, 4, 5, 6, 7, 8, 15, 16, 9, 10, 11, 12, 13, 14] rfl rfl rfl rfl (by decide) rfl rfl
set_option maxRecDepth 100000 in
theorem cs_holds (l : Launch) (g : GG) (a : Nat → Nat) (v : SV) (x : Int32) (hkc : v.kc ≤ 8) : fz_C l g yX1_holds cX1_holds 2 (some .boolean) 1 22 [.ref (a 9), .int x] (SW g a v) (SW g a v) (some (.int (if plcF v.kp x 0 v.kc = -1 then 0 else 1))) := fz_C.fr (c_X1_holds l g (a 9) (a 10) v.kp v.kc x hkc) [9, 10] [0, 1, 2, 3, 4, 5, 6, 7, 8, 11, 12, 13, 14, 15, 16] [0, 1, 2, 3, 4, 5, 6, 7, 8, 15, 16, 9, 10, 11, 12, 13, 14] rfl rfl rfl rfl (by decide) rfl rfl
set_option maxRecDepth 100000 in
theorem cs_apFar (l : Launch) (g : GG) (a : Nat → Nat) (v : SV) (j : Nat) (hj : j < 5) (hm : MOK (v.mv j)) : fz_C l g yX0_applyTo cX0_applyTo 5 none 1 32 [.ref (a (12 + j)), .ref (a 2), .ref (a 7)] (SW g a v) (SW g a (afV v j)) none := by
  rcases (show j = 0 ∨ j = 1 ∨ j = 2 ∨ j = 3 ∨ j = 4 by omega) with rfl | rfl | rfl | rfl | rfl
  · exact fz_C.fr (c_X0_applyTo l g (a 12) (a 2) (a 7) (v.mv 0) v.far v.before hm) [12, 2, 7] [0, 1, 3, 4, 5, 6, 8, 9, 10, 11, 13, 14, 15, 16] [0, 1, 15, 2, 3, 4, 5, 16, 6, 7, 8, 9, 14, 10, 11, 12, 13] rfl rfl rfl rfl (by decide) rfl rfl
  · exact fz_C.fr (c_X0_applyTo l g (a 13) (a 2) (a 7) (v.mv 1) v.far v.before hm) [13, 2, 7] [0, 1, 3, 4, 5, 6, 8, 9, 10, 11, 12, 14, 15, 16] [0, 1, 15, 2, 3, 4, 5, 16, 6, 7, 8, 9, 10, 14, 11, 12, 13] rfl rfl rfl rfl (by decide) rfl rfl
  · exact fz_C.fr (c_X0_applyTo l g (a 14) (a 2) (a 7) (v.mv 2) v.far v.before hm) [14, 2, 7] [0, 1, 3, 4, 5, 6, 8, 9, 10, 11, 12, 13, 15, 16] [0, 1, 15, 2, 3, 4, 5, 16, 6, 7, 8, 9, 10, 11, 14, 12, 13] rfl rfl rfl rfl (by decide) rfl rfl
  · exact fz_C.fr (c_X0_applyTo l g (a 15) (a 2) (a 7) (v.mv 3) v.far v.before hm) [15, 2, 7] [0, 1, 3, 4, 5, 6, 8, 9, 10, 11, 12, 13, 14, 16] [0, 1, 15, 2, 3, 4, 5, 16, 6, 7, 8, 9, 10, 11, 12, 14, 13] rfl rfl rfl rfl (by decide) rfl rfl
  · exact fz_C.fr (c_X0_applyTo l g (a 16) (a 2) (a 7) (v.mv 4) v.far v.before hm) [16, 2, 7] [0, 1, 3, 4, 5, 6, 8, 9, 10, 11, 12, 13, 14, 15] [0, 1, 15, 2, 3, 4, 5, 16, 6, 7, 8, 9, 10, 11, 12, 13, 14] rfl rfl rfl rfl (by decide) rfl rfl
set_option maxRecDepth 100000 in
theorem cs_apNear (l : Launch) (g : GG) (a : Nat → Nat) (v : SV) (j : Nat) (hj : j < 5) (hm : MOK (v.mv j)) : fz_C l g yX0_applyTo cX0_applyTo 5 none 1 32 [.ref (a (12 + j)), .ref (a 1), .ref (a 7)] (SW g a v) (SW g a (anV v j)) none := by
  rcases (show j = 0 ∨ j = 1 ∨ j = 2 ∨ j = 3 ∨ j = 4 by omega) with rfl | rfl | rfl | rfl | rfl
  · exact fz_C.fr (c_X0_applyTo l g (a 12) (a 1) (a 7) (v.mv 0) v.near v.before hm) [12, 1, 7] [0, 2, 3, 4, 5, 6, 8, 9, 10, 11, 13, 14, 15, 16] [0, 15, 1, 2, 3, 4, 5, 16, 6, 7, 8, 9, 14, 10, 11, 12, 13] rfl rfl rfl rfl (by decide) rfl rfl
  · exact fz_C.fr (c_X0_applyTo l g (a 13) (a 1) (a 7) (v.mv 1) v.near v.before hm) [13, 1, 7] [0, 2, 3, 4, 5, 6, 8, 9, 10, 11, 12, 14, 15, 16] [0, 15, 1, 2, 3, 4, 5, 16, 6, 7, 8, 9, 10, 14, 11, 12, 13] rfl rfl rfl rfl (by decide) rfl rfl
  · exact fz_C.fr (c_X0_applyTo l g (a 14) (a 1) (a 7) (v.mv 2) v.near v.before hm) [14, 1, 7] [0, 2, 3, 4, 5, 6, 8, 9, 10, 11, 12, 13, 15, 16] [0, 15, 1, 2, 3, 4, 5, 16, 6, 7, 8, 9, 10, 11, 14, 12, 13] rfl rfl rfl rfl (by decide) rfl rfl
  · exact fz_C.fr (c_X0_applyTo l g (a 15) (a 1) (a 7) (v.mv 3) v.near v.before hm) [15, 1, 7] [0, 2, 3, 4, 5, 6, 8, 9, 10, 11, 12, 13, 14, 16] [0, 15, 1, 2, 3, 4, 5, 16, 6, 7, 8, 9, 10, 11, 12, 14, 13] rfl rfl rfl rfl (by decide) rfl rfl
  · exact fz_C.fr (c_X0_applyTo l g (a 16) (a 1) (a 7) (v.mv 4) v.near v.before hm) [16, 1, 7] [0, 2, 3, 4, 5, 6, 8, 9, 10, 11, 12, 13, 14, 15] [0, 15, 1, 2, 3, 4, 5, 16, 6, 7, 8, 9, 10, 11, 12, 13, 14] rfl rfl rfl rfl (by decide) rfl rfl
set_option maxRecDepth 100000 in
theorem cs_set (l : Launch) (g : GG) (a : Nat → Nat) (v : SV) (j : Nat) (hj : j < 5) (h : Nat → Nat) : fz_C l g yX0_set cX0_set 7 none 0 0 [.ref (a (12 + j)), .int (nI (h 0)), .int (nI (h 1)), .int (nI (h 2)), .int (nI (h 3)), .int (nI (h 4)), .int (nI (h 5))] (SW g a v) (SW g a (v.mvS (mvU v.mv j h))) none := by
  rcases (show j = 0 ∨ j = 1 ∨ j = 2 ∨ j = 3 ∨ j = 4 by omega) with rfl | rfl | rfl | rfl | rfl
  · exact fz_C.fr (c_X0_set l g (a 12) (v.mv 0) h) [12] [0, 1, 2, 3, 4, 5, 6, 7, 8, 9, 10, 11, 13, 14, 15, 16] [0, 1, 2, 3, 4, 5, 6, 7, 8, 9, 10, 11, 16, 12, 13, 14, 15] rfl rfl rfl rfl (by decide) rfl rfl
  · exact fz_C.fr (c_X0_set l g (a 13) (v.mv 1) h) [13] [0, 1, 2, 3, 4, 5, 6, 7, 8, 9, 10, 11, 12, 14, 15, 16] [0, 1, 2, 3, 4, 5, 6, 7, 8, 9, 10, 11, 12, 16, 13, 14, 15] rfl rfl rfl rfl (by decide) rfl rfl
  · exact fz_C.fr (c_X0_set l g (a 14) (v.mv 2) h) [14] [0, 1, 2, 3, 4, 5, 6, 7, 8, 9, 10, 11, 12, 13, 15, 16] [0, 1, 2, 3, 4, 5, 6, 7, 8, 9, 10, 11, 12, 13, 16, 14, 15] rfl rfl rfl rfl (by decide) rfl rfl
  · exact fz_C.fr (c_X0_set l g (a 15) (v.mv 3) h) [15] [0, 1, 2, 3, 4, 5, 6, 7, 8, 9, 10, 11, 12, 13, 14, 16] [0, 1, 2, 3, 4, 5, 6, 7, 8, 9, 10, 11, 12, 13, 14, 16, 15] rfl rfl rfl rfl (by decide) rfl rfl
  · exact fz_C.fr (c_X0_set l g (a 16) (v.mv 4) h) [16] [0, 1, 2, 3, 4, 5, 6, 7, 8, 9, 10, 11, 12, 13, 14, 15] [0, 1, 2, 3, 4, 5, 6, 7, 8, 9, 10, 11, 12, 13, 14, 15, 16] rfl rfl rfl rfl (by decide) rfl rfl
set_option maxRecDepth 100000 in
theorem cs_cpS (l : Launch) (g : GG) (a : Nat → Nat) (v : SV) (j : Nat) (hj : j < 5) : fz_C l g yX0_copyFrom cX0_copyFrom 2 none 1 26 [.ref (a (12 + j)), .ref (a (12 + j))] (SW g a v) (SW g a (v.mvS (mvU v.mv j (v.mv j)))) none := by
  rcases (show j = 0 ∨ j = 1 ∨ j = 2 ∨ j = 3 ∨ j = 4 by omega) with rfl | rfl | rfl | rfl | rfl
  · exact fz_C.fr (c_X0_copySelf l g (a 12) (v.mv 0)) [12] [0, 1, 2, 3, 4, 5, 6, 7, 8, 9, 10, 11, 13, 14, 15, 16] [0, 1, 2, 3, 4, 5, 6, 7, 8, 9, 10, 11, 16, 12, 13, 14, 15] rfl rfl rfl rfl (by decide) rfl rfl
  · exact fz_C.fr (c_X0_copySelf l g (a 13) (v.mv 1)) [13] [0, 1, 2, 3, 4, 5, 6, 7, 8, 9, 10, 11, 12, 14, 15, 16] [0, 1, 2, 3, 4, 5, 6, 7, 8, 9, 10, 11, 12, 16, 13, 14, 15] rfl rfl rfl rfl (by decide) rfl rfl
  · exact fz_C.fr (c_X0_copySelf l g (a 14) (v.mv 2)) [14] [0, 1, 2, 3, 4, 5, 6, 7, 8, 9, 10, 11, 12, 13, 15, 16] [0, 1, 2, 3, 4, 5, 6, 7, 8, 9, 10, 11, 12, 13, 16, 14, 15] rfl rfl rfl rfl (by decide) rfl rfl
  · exact fz_C.fr (c_X0_copySelf l g (a 15) (v.mv 3)) [15] [0, 1, 2, 3, 4, 5, 6, 7, 8, 9, 10, 11, 12, 13, 14, 16] [0, 1, 2, 3, 4, 5, 6, 7, 8, 9, 10, 11, 12, 13, 14, 16, 15] rfl rfl rfl rfl (by decide) rfl rfl
  · exact fz_C.fr (c_X0_copySelf l g (a 16) (v.mv 4)) [16] [0, 1, 2, 3, 4, 5, 6, 7, 8, 9, 10, 11, 12, 13, 14, 15] [0, 1, 2, 3, 4, 5, 6, 7, 8, 9, 10, 11, 12, 13, 14, 15, 16] rfl rfl rfl rfl (by decide) rfl rfl
set_option maxRecDepth 100000 in
theorem cs_cpM (l : Launch) (g : GG) (a : Nat → Nat) (v : SV) (i j : Nat) (hi : i < j) (hj : j < 5) : fz_C l g yX0_copyFrom cX0_copyFrom 2 none 1 26 [.ref (a (12 + i)), .ref (a (12 + j))] (SW g a v) (SW g a (v.mvS (mvU v.mv i (v.mv j)))) none := by
  rcases (show (i = 0 ∧ j = 1) ∨ (i = 0 ∧ j = 2) ∨ (i = 1 ∧ j = 2) ∨ (i = 0 ∧ j = 3) ∨ (i = 1 ∧ j = 3) ∨ (i = 2 ∧ j = 3) ∨ (i = 0 ∧ j = 4) ∨ (i = 1 ∧ j = 4) ∨ (i = 2 ∧ j = 4) ∨ (i = 3 ∧ j = 4) by omega) with ⟨rfl, rfl⟩ | ⟨rfl, rfl⟩ | ⟨rfl, rfl⟩ | ⟨rfl, rfl⟩ | ⟨rfl, rfl⟩ | ⟨rfl, rfl⟩ | ⟨rfl, rfl⟩ | ⟨rfl, rfl⟩ | ⟨rfl, rfl⟩ | ⟨rfl, rfl⟩
  · exact fz_C.fr (c_X0_copyFrom l g (a 12) (a 13) (v.mv 0) (v.mv 1)) [12, 13] [0, 1, 2, 3, 4, 5, 6, 7, 8, 9, 10, 11, 14, 15, 16] [0, 1, 2, 3, 4, 5, 6, 7, 8, 9, 10, 11, 15, 16, 12, 13, 14] rfl rfl rfl rfl (by decide) rfl rfl
  · exact fz_C.fr (c_X0_copyFrom l g (a 12) (a 14) (v.mv 0) (v.mv 2)) [12, 14] [0, 1, 2, 3, 4, 5, 6, 7, 8, 9, 10, 11, 13, 15, 16] [0, 1, 2, 3, 4, 5, 6, 7, 8, 9, 10, 11, 15, 12, 16, 13, 14] rfl rfl rfl rfl (by decide) rfl rfl
  · exact fz_C.fr (c_X0_copyFrom l g (a 13) (a 14) (v.mv 1) (v.mv 2)) [13, 14] [0, 1, 2, 3, 4, 5, 6, 7, 8, 9, 10, 11, 12, 15, 16] [0, 1, 2, 3, 4, 5, 6, 7, 8, 9, 10, 11, 12, 15, 16, 13, 14] rfl rfl rfl rfl (by decide) rfl rfl
  · exact fz_C.fr (c_X0_copyFrom l g (a 12) (a 15) (v.mv 0) (v.mv 3)) [12, 15] [0, 1, 2, 3, 4, 5, 6, 7, 8, 9, 10, 11, 13, 14, 16] [0, 1, 2, 3, 4, 5, 6, 7, 8, 9, 10, 11, 15, 12, 13, 16, 14] rfl rfl rfl rfl (by decide) rfl rfl
  · exact fz_C.fr (c_X0_copyFrom l g (a 13) (a 15) (v.mv 1) (v.mv 3)) [13, 15] [0, 1, 2, 3, 4, 5, 6, 7, 8, 9, 10, 11, 12, 14, 16] [0, 1, 2, 3, 4, 5, 6, 7, 8, 9, 10, 11, 12, 15, 13, 16, 14] rfl rfl rfl rfl (by decide) rfl rfl
  · exact fz_C.fr (c_X0_copyFrom l g (a 14) (a 15) (v.mv 2) (v.mv 3)) [14, 15] [0, 1, 2, 3, 4, 5, 6, 7, 8, 9, 10, 11, 12, 13, 16] [0, 1, 2, 3, 4, 5, 6, 7, 8, 9, 10, 11, 12, 13, 15, 16, 14] rfl rfl rfl rfl (by decide) rfl rfl
  · exact fz_C.fr (c_X0_copyFrom l g (a 12) (a 16) (v.mv 0) (v.mv 4)) [12, 16] [0, 1, 2, 3, 4, 5, 6, 7, 8, 9, 10, 11, 13, 14, 15] [0, 1, 2, 3, 4, 5, 6, 7, 8, 9, 10, 11, 15, 12, 13, 14, 16] rfl rfl rfl rfl (by decide) rfl rfl
  · exact fz_C.fr (c_X0_copyFrom l g (a 13) (a 16) (v.mv 1) (v.mv 4)) [13, 16] [0, 1, 2, 3, 4, 5, 6, 7, 8, 9, 10, 11, 12, 14, 15] [0, 1, 2, 3, 4, 5, 6, 7, 8, 9, 10, 11, 12, 15, 13, 14, 16] rfl rfl rfl rfl (by decide) rfl rfl
  · exact fz_C.fr (c_X0_copyFrom l g (a 14) (a 16) (v.mv 2) (v.mv 4)) [14, 16] [0, 1, 2, 3, 4, 5, 6, 7, 8, 9, 10, 11, 12, 13, 15] [0, 1, 2, 3, 4, 5, 6, 7, 8, 9, 10, 11, 12, 13, 15, 14, 16] rfl rfl rfl rfl (by decide) rfl rfl
  · exact fz_C.fr (c_X0_copyFrom l g (a 15) (a 16) (v.mv 3) (v.mv 4)) [15, 16] [0, 1, 2, 3, 4, 5, 6, 7, 8, 9, 10, 11, 12, 13, 14] [0, 1, 2, 3, 4, 5, 6, 7, 8, 9, 10, 11, 12, 13, 14, 15, 16] rfl rfl rfl rfl (by decide) rfl rfl
theorem cs_copy (l : Launch) (g : GG) (a : Nat → Nat) (v : SV) (i j : Nat) (hi : i ≤ j) (hj : j < 5) : fz_C l g yX0_copyFrom cX0_copyFrom 2 none 1 26 [.ref (a (12 + i)), .ref (a (12 + j))] (SW g a v) (SW g a (v.mvS (mvU v.mv i (v.mv j)))) none := by
  rcases Nat.lt_or_ge i j with h | h
  · exact cs_cpM l g a v i j h hj
  · have e : i = j := by omega
    subst e
    exact cs_cpS l g a v i hj
set_option maxRecDepth 100000 in
theorem cs_cp2 (l : Launch) (g : GG) (a b : Nat → Nat) (v u : SV) (j : Nat) (hj : j < 5) : fz_C l g yX0_copyFrom cX0_copyFrom 2 none 1 26 [.ref (a (12 + j)), .ref (b (12 + j))] (SW g a v ++ SW g b u) (SW g a (v.mvS (mvU v.mv j (u.mv j))) ++ SW g b u) none := by
  rcases (show j = 0 ∨ j = 1 ∨ j = 2 ∨ j = 3 ∨ j = 4 by omega) with rfl | rfl | rfl | rfl | rfl
  · exact fz_C.fr (c_X0_copyFrom l g (a 12) (b 12) (v.mv 0) (u.mv 0)) [12, 29] [0, 1, 2, 3, 4, 5, 6, 7, 8, 9, 10, 11, 13, 14, 15, 16, 17, 18, 19, 20, 21, 22, 23, 24, 25, 26, 27, 28, 30, 31, 32, 33] [0, 1, 2, 3, 4, 5, 6, 7, 8, 9, 10, 11, 32, 12, 13, 14, 15, 16, 17, 18, 19, 20, 21, 22, 23, 24, 25, 26, 27, 33, 28, 29, 30, 31] rfl rfl rfl rfl (by decide) rfl rfl
  · exact fz_C.fr (c_X0_copyFrom l g (a 13) (b 13) (v.mv 1) (u.mv 1)) [13, 30] [0, 1, 2, 3, 4, 5, 6, 7, 8, 9, 10, 11, 12, 14, 15, 16, 17, 18, 19, 20, 21, 22, 23, 24, 25, 26, 27, 28, 29, 31, 32, 33] [0, 1, 2, 3, 4, 5, 6, 7, 8, 9, 10, 11, 12, 32, 13, 14, 15, 16, 17, 18, 19, 20, 21, 22, 23, 24, 25, 26, 27, 28, 33, 29, 30, 31] rfl rfl rfl rfl (by decide) rfl rfl
  · exact fz_C.fr (c_X0_copyFrom l g (a 14) (b 14) (v.mv 2) (u.mv 2)) [14, 31] [0, 1, 2, 3, 4, 5, 6, 7, 8, 9, 10, 11, 12, 13, 15, 16, 17, 18, 19, 20, 21, 22, 23, 24, 25, 26, 27, 28, 29, 30, 32, 33] [0, 1, 2, 3, 4, 5, 6, 7, 8, 9, 10, 11, 12, 13, 32, 14, 15, 16, 17, 18, 19, 20, 21, 22, 23, 24, 25, 26, 27, 28, 29, 33, 30, 31] rfl rfl rfl rfl (by decide) rfl rfl
  · exact fz_C.fr (c_X0_copyFrom l g (a 15) (b 15) (v.mv 3) (u.mv 3)) [15, 32] [0, 1, 2, 3, 4, 5, 6, 7, 8, 9, 10, 11, 12, 13, 14, 16, 17, 18, 19, 20, 21, 22, 23, 24, 25, 26, 27, 28, 29, 30, 31, 33] [0, 1, 2, 3, 4, 5, 6, 7, 8, 9, 10, 11, 12, 13, 14, 32, 15, 16, 17, 18, 19, 20, 21, 22, 23, 24, 25, 26, 27, 28, 29, 30, 33, 31] rfl rfl rfl rfl (by decide) rfl rfl
  · exact fz_C.fr (c_X0_copyFrom l g (a 16) (b 16) (v.mv 4) (u.mv 4)) [16, 33] [0, 1, 2, 3, 4, 5, 6, 7, 8, 9, 10, 11, 12, 13, 14, 15, 17, 18, 19, 20, 21, 22, 23, 24, 25, 26, 27, 28, 29, 30, 31, 32] [0, 1, 2, 3, 4, 5, 6, 7, 8, 9, 10, 11, 12, 13, 14, 15, 32, 16, 17, 18, 19, 20, 21, 22, 23, 24, 25, 26, 27, 28, 29, 30, 31, 33] rfl rfl rfl rfl (by decide) rfl rfl
set_option maxRecDepth 100000 in
theorem cs_kc2 (l : Launch) (g : GG) (a b : Nat → Nat) (v u : SV) : fz_C l g yX1_copyFrom cX1_copyFrom 2 none 1 32 [.ref (a 9), .ref (b 9)] (SW g a v ++ SW g b u) (SW g a (knV v (fz_to u.kp v.kp 8) u.kc) ++ SW g b u) none := fz_C.fr (c_X1_copyFrom l g (a 9) (a 10) (b 9) (b 10) v.kp u.kp v.kc u.kc) [9, 10, 26, 27] [0, 1, 2, 3, 4, 5, 6, 7, 8, 11, 12, 13, 14, 15, 16, 17, 18, 19, 20, 21, 22, 23, 24, 25, 28, 29, 30, 31, 32, 33] [0, 1, 2, 3, 4, 5, 6, 7, 8, 30, 31, 9, 10, 11, 12, 13, 14, 15, 16, 17, 18, 19, 20, 21, 22, 23, 32, 33, 24, 25, 26, 27, 28, 29] rfl rfl rfl rfl (by decide) rfl rfl
end
section
theorem piF_ok (v : SV) : ∀ t, t ≤ 48 → (piF v t).1 ≤ t ∧ ∀ j, j < (piF v t).1 → ∃ u, u < 48 ∧ (piF v t).2.2 j = nI u := by
  have key : ∀ (wv : Nat → Int32) (t c : Nat), t < 48 → ∀ (p : Nat) (o : Nat → Int32), p ≤ c → (∀ j, j < c + 1 → j ≠ p → ∃ u, u < 48 ∧ o j = nI u) → ∀ j, j < c + 1 → ∃ u, u < 48 ∧ insF wv t p o j = nI u := by
    intro wv t c ht p
    induction p with
    | zero =>
      intro o hp ho j hj
      show ∃ u, u < 48 ∧ upd o 0 (nI t) j = nI u
      by_cases h : j = 0
      · subst h
        exact ⟨t, ht, pk_us⟩
      · rw [pk_un h]
        exact ho j hj h
    | succ p ih =>
      intro o hp ho j hj
      show ∃ u, u < 48 ∧ (if wv (o p).toNatClampNeg < wv t then insF wv t p (upd o (p + 1) (o p)) else upd o (p + 1) (nI t)) j = nI u
      split
      · refine ih _ (by omega) (fun i hi hne => ?_) j hj
        by_cases h : i = p + 1
        · subst h
          rw [pk_us]
          exact ho p (by omega) (by omega)
        · rw [pk_un h]
          exact ho i hi h
      · by_cases h : j = p + 1
        · subst h
          exact ⟨t, ht, pk_us⟩
        · rw [pk_un h]
          exact ho j hj h
  intro t
  induction t with
  | zero => intro _; exact ⟨Nat.le_refl _, fun j hj => absurd hj (Nat.not_lt_zero _)⟩
  | succ t ih =>
    intro ht
    obtain ⟨h1, h2⟩ := ih (by omega)
    by_cases h : v.since t = -1
    · have e : piF v (t + 1) = piF v t := if_pos h
      rw [e]
      exact ⟨by omega, h2⟩
    · have e : piF v (t + 1) = ((piF v t).1 + 1, upd (piF v t).2.1 t (woI v t), insF (upd (piF v t).2.1 t (woI v t)) t (piF v t).1 (piF v t).2.2) := if_neg h
      rw [e]
      refine ⟨by show (piF v t).1 + 1 ≤ t + 1; omega, fun j hj => ?_⟩
      exact key _ t (piF v t).1 (by omega) (piF v t).1 _ (Nat.le_refl _) (fun i hi hne => h2 i (by omega)) j hj
theorem mtC_le (kp : Nat → Int32) (kc : Nat) (x : Int32) (h : kc ≤ 8) : mtC kp kc x ≤ 8 := by
  unfold mtC
  split
  · split <;> omega
  · exact h
theorem stR_keep (v : SV) (t : Nat) (b : Int32) (h : v.kc ≤ 8) : (stR v t b).2.order = v.order ∧ (stR v t b).2.kc ≤ 8 := by
  have sp : ∀ w c, (spR v t w c b).2.order = v.order ∧ (spR v t w c b).2.kc ≤ 8 := by
    intro w c
    unfold spR
    split
    · exact ⟨rfl, h⟩
    · exact ⟨rfl, mtC_le _ _ _ h⟩
  have sr : (srR v t b).2.order = v.order ∧ (srR v t b).2.kc ≤ 8 := by
    unfold srR
    split
    · exact ⟨rfl, h⟩
    · split
      · exact ⟨rfl, h⟩
      · exact ⟨rfl, h⟩
  unfold stR
  split
  · split
    · exact sr
    · exact sp _ _
  · exact sp _ _
theorem saF_keep (v : SV) (b : Int32) (h : v.kc ≤ 8) : ∀ p, (saF v b p).2.order = v.order ∧ (saF v b p).2.kc ≤ 8 := by
  intro p
  induction p with
  | zero => exact ⟨rfl, h⟩
  | succ p ih =>
    have k := stR_keep (saF v b p).2 ((saF v b p).2.order p).toNatClampNeg (saF v b p).1 ih.2
    exact ⟨k.1.trans ih.1, k.2⟩
theorem tlF_keep (b : Int32) : ∀ (k : Nat) (v : SV) (told : Nat), (tlF b v told k).2.mv = v.mv ∧ (tlF b v told k).2.wm = v.wm ∧ (tlF b v told k).2.kc = v.kc ∧ told ≤ (tlF b v told k).1 ∧ (tlF b v told k).1 ≤ told + k := by
  intro k
  induction k with
  | zero => intro v told; exact ⟨rfl, rfl, rfl, Nat.le_refl _, Nat.le_refl _⟩
  | succ k ih =>
    intro v told
    by_cases h : b - nI told * 2 < 2
    · have e : tlF b v told (k + 1) = (told, v) := if_pos h
      rw [e]
      exact ⟨rfl, rfl, rfl, Nat.le_refl _, by show told ≤ _; omega⟩
    · have e : tlF b v told (k + 1) = tlF b (nuV (afV v told)) (told + 1) k := if_neg h
      obtain ⟨h1, h2, h3, h4, h5⟩ := ih (nuV (afV v told)) (told + 1)
      rw [e]
      exact ⟨h1, h2, h3, by omega, by omega⟩
theorem fz_01 {x : Int32} (h : x = 0 ∨ x = 1) : narrow .boolean (.int x) = .int x := by
  rcases h with h | h <;> rw [h] <;> rfl
theorem hfF_01 (v : SV) : ∀ k i, hfF v i k = 0 ∨ hfF v i k = 1 := by
  intro k
  induction k with
  | zero => intro i; exact Or.inl rfl
  | succ k ih =>
    intro i
    show (if kdI v i = 2 then 1 else hfF v (i + 1) k) = 0 ∨ (if kdI v i = 2 then 1 else hfF v (i + 1) k) = 1
    split
    · exact Or.inr rfl
    · exact ih (i + 1)
theorem lkI_01 (x t : Nat) : lkI x t = 0 ∨ lkI x t = 1 := by
  unfold lkI
  split
  · exact Or.inl rfl
  · split
    · exact Or.inl rfl
    · exact Or.inr rfl
theorem alI_01 (v : SV) : alI v = 0 ∨ alI v = 1 := by
  unfold alI
  split
  · split
    · exact Or.inr rfl
    · exact Or.inl rfl
  · exact Or.inl rfl
set_option maxHeartbeats 4000000 in
set_option maxRecDepth 100000 in
theorem c_X2_noteChanges (l : Launch) (g : GG) (a : Nat → Nat) (v : SV) : fz_C l g yX2_noteChanges cX2_noteChanges 2 none 0 0 [.ref (a 0)] (SW g a v) (SW g a (ncV v)) none := by
  refine fz_C.of (by decide) (Nat.le_of_ble_eq_true rfl) ?_
  intro p e s m args below meth c A ls X hW hl
  have hx := X.1
  have hb := X.2.1
  have hl : lv_has ls 2 [(0, .ref (a 0))] := hl
  have X : fz_X p s m meth c RX2 cX2_noteChanges 2 none g A := X
  have hW : fz_W g A s (SW g a v) s.heap [] := hW
  refine lv_iconst (v := 0) hx hb dX2_noteChanges_0 (by decide) ?_
  refine lv_istore_n (lv' := [(1, .int 0), (0, .ref (a 0))]) hx hb dX2_noteChanges_1 rfl hl (by decide) rfl (fun ls hl => ?_)
  have loop2 : ∀ (k : Nat) (t : Nat), t ≤ 48 → 48 < t + k → ∀ (H : Heap) (locs : List Loc) (ls : Array Slot), fz_W g A s (SW g a (v.chS (fz_to (ncF v) v.ch t))) H locs → lv_has ls 2 [(0, .ref (a 0)), (1, .int (nI t))] → W p l e (fz_R 0 0 0 0) s m args below meth c H locs 0 0 (MQ below (fz_Q g (SW g a (ncV v)) none A) args s 0 0 A) (F0 m 2 ls []) := by
    intro k
    induction k with
    | zero =>
      intro t ht hk
      omega
    | succ k ih2 =>
      intro t ht hkt H locs ls hW hl
      refine lv_iload_n hx hb dX2_noteChanges_2 rfl (lv_at hl 1 rfl) ?_
      refine lv_bipush (v := 48) hx hb dX2_noteChanges_3 (by decide) ?_
      refine lv_icmp_ge (tgt := 39) hx hb dX2_noteChanges_5 (by decide) (fun c5 => ?_) (fun c5 => ?_)
      · skip
        have h5 : 48 ≤ t := (nI_leI (a := 48) (b := t) (by omega) (by omega)).mp c5
        have e5 : t = 48 := by omega
        have hl := lv_sub hl [0] rfl
        have hl : lv_has ls 2 [(0, .ref (a 0))] := hl
        exact fz_rv X (fz_cast (by rw [e5]; rfl) hW) dX2_noteChanges_39
      · skip
        have h5 : t < 48 := Nat.not_le.mp (fun z => c5 ((nI_leI (a := 48) (b := t) (by omega) (by omega)).mpr z))
        refine lv_aload_n hx hb dX2_noteChanges_8 rfl (lv_at hl 0 rfl) ?_
        refine gf_X2_9 X hW 0 rfl rfl dX2_noteChanges_9 ?_
        refine lv_iload_n hx hb dX2_noteChanges_12 rfl (lv_at hl 1 rfl) ?_
        refine fz_il X hW 1 (t) rfl rfl (by omega) (by decide) dX2_noteChanges_13 ?_
        refine lv_aload_n hx hb dX2_noteChanges_14 rfl (lv_at hl 0 rfl) ?_
        refine gf_X2_30 X hW 0 rfl rfl dX2_noteChanges_15 ?_
        refine lv_iload_n hx hb dX2_noteChanges_18 rfl (lv_at hl 1 rfl) ?_
        refine fz_il X hW 7 (t) rfl rfl (by omega) (by decide) dX2_noteChanges_19 ?_
        refine lv_icmp_eq (tgt := 33) hx hb dX2_noteChanges_20 (by decide) (fun c20 => ?_) (fun c20 => ?_)
        · skip
          refine lv_iinc (v := nI (t + 1)) (lv' := [(1, .int (nI (t + 1))), (0, .ref (a 0))]) hx hb dX2_noteChanges_33 hl (k := 1) rfl (nI_1 _) (by decide) rfl (fun ls hl => ?_)
          refine lv_goto (tgt := 2) hx hb dX2_noteChanges_36 (by decide) ?_
          exact ih2 (t + 1) (by omega) (by omega) _ _ _ (fz_cast (congrArg (fun z => SW g a (SV.chS v z)) (fz_to_n (ncF v) v.ch t (if_pos c20).symm)) hW) (lv_sub hl [1, 0] rfl)
        · skip
          refine lv_aload_n hx hb dX2_noteChanges_23 rfl (lv_at hl 0 rfl) ?_
          refine gf_X2_21 X hW 0 rfl rfl dX2_noteChanges_24 ?_
          refine lv_iload_n hx hb dX2_noteChanges_27 rfl (lv_at hl 1 rfl) ?_
          refine lv_dup2_11 hx hb dX2_noteChanges_28 rfl rfl ?_
          refine fz_il X hW 4 (t) rfl rfl (by omega) (by decide) dX2_noteChanges_29 ?_
          refine lv_iconst (v := 1) hx hb dX2_noteChanges_30 (by decide) ?_
          refine lv_ior hx hb dX2_noteChanges_31 ?_
          refine fz_is X hW 4 (t) rfl rfl (by omega) (by decide) dX2_noteChanges_32 (fun H locs hW => ?_)
          refine lv_iinc (v := nI (t + 1)) (lv' := [(1, .int (nI (t + 1))), (0, .ref (a 0))]) hx hb dX2_noteChanges_33 hl (k := 1) rfl (nI_1 _) (by decide) rfl (fun ls hl => ?_)
          refine lv_goto (tgt := 2) hx hb dX2_noteChanges_36 (by decide) ?_
          exact ih2 (t + 1) (by omega) (by omega) _ _ _ (fz_cast (congrArg (fun z => SW g a (SV.chS v z)) (fz_to_s (ncF v) v.ch t (by show fz_to (ncF v) v.ch t t ||| 1 = _; rw [fz_to_ge (Nat.le_refl _)]; exact (if_neg c20).symm))) hW) (lv_sub hl [1, 0] rfl)
  exact loop2 (48 + 1) 0 (by omega) (by omega) _ _ _ (fz_cast (congrArg (fun z => SW g a (SV.chS v z)) (fz_to_0 _ _).symm) hW) (lv_sub hl [1, 0] rfl)
set_option maxHeartbeats 4000000 in
set_option maxRecDepth 100000 in
theorem c_X2_noteUnlike (l : Launch) (g : GG) (a : Nat → Nat) (v : SV) : fz_C l g yX2_noteUnlike cX2_noteUnlike 2 none 0 0 [.ref (a 0)] (SW g a v) (SW g a (nuV v)) none := by
  refine fz_C.of (by decide) (Nat.le_of_ble_eq_true rfl) ?_
  intro p e s m args below meth c A ls X hW hl
  have hx := X.1
  have hb := X.2.1
  have hl : lv_has ls 2 [(0, .ref (a 0))] := hl
  have X : fz_X p s m meth c RX2 cX2_noteUnlike 2 none g A := X
  have hW : fz_W g A s (SW g a v) s.heap [] := hW
  refine lv_iconst (v := 0) hx hb dX2_noteUnlike_0 (by decide) ?_
  refine lv_istore_n (lv' := [(1, .int 0), (0, .ref (a 0))]) hx hb dX2_noteUnlike_1 rfl hl (by decide) rfl (fun ls hl => ?_)
  have loop2 : ∀ (k : Nat) (t : Nat), t ≤ 48 → 48 < t + k → ∀ (H : Heap) (locs : List Loc) (ls : Array Slot), fz_W g A s (SW g a (v.sinceS (fz_to (nuF v) v.since t))) H locs → lv_has ls 2 [(0, .ref (a 0)), (1, .int (nI t))] → W p l e (fz_R 0 0 0 0) s m args below meth c H locs 0 0 (MQ below (fz_Q g (SW g a (nuV v)) none A) args s 0 0 A) (F0 m 2 ls []) := by
    intro k
    induction k with
    | zero =>
      intro t ht hk
      omega
    | succ k ih2 =>
      intro t ht hkt H locs ls hW hl
      refine lv_iload_n hx hb dX2_noteUnlike_2 rfl (lv_at hl 1 rfl) ?_
      refine lv_bipush (v := 48) hx hb dX2_noteUnlike_3 (by decide) ?_
      refine lv_icmp_ge (tgt := 59) hx hb dX2_noteUnlike_5 (by decide) (fun c5 => ?_) (fun c5 => ?_)
      · skip
        have h5 : 48 ≤ t := (nI_leI (a := 48) (b := t) (by omega) (by omega)).mp c5
        have e5 : t = 48 := by omega
        have hl := lv_sub hl [0] rfl
        have hl : lv_has ls 2 [(0, .ref (a 0))] := hl
        exact fz_rv X (fz_cast (by rw [e5]; rfl) hW) dX2_noteUnlike_59
      · skip
        have h5 : t < 48 := Nat.not_le.mp (fun z => c5 ((nI_leI (a := 48) (b := t) (by omega) (by omega)).mpr z))
        refine lv_aload_n hx hb dX2_noteUnlike_8 rfl (lv_at hl 0 rfl) ?_
        refine gf_X2_9 X hW 0 rfl rfl dX2_noteUnlike_9 ?_
        refine lv_iload_n hx hb dX2_noteUnlike_12 rfl (lv_at hl 1 rfl) ?_
        refine fz_il X hW 1 (t) rfl rfl (by omega) (by decide) dX2_noteUnlike_13 ?_
        refine lv_aload_n hx hb dX2_noteUnlike_14 rfl (lv_at hl 0 rfl) ?_
        refine gf_X2_15 X hW 0 rfl rfl dX2_noteUnlike_15 ?_
        refine lv_iload_n hx hb dX2_noteUnlike_18 rfl (lv_at hl 1 rfl) ?_
        refine fz_il X hW 2 (t) rfl rfl (by omega) (by decide) dX2_noteUnlike_19 ?_
        refine lv_icmp_ne (tgt := 33) hx hb dX2_noteUnlike_20 (by decide) (fun c20 => ?_) (fun c20 => ?_)
        · skip
          have c20 : ¬ v.near t = v.far t := c20
          refine lv_aload_n hx hb dX2_noteUnlike_33 rfl (lv_at hl 0 rfl) ?_
          refine gf_X2_18 X hW 0 rfl rfl dX2_noteUnlike_34 ?_
          refine lv_iload_n hx hb dX2_noteUnlike_37 rfl (lv_at hl 1 rfl) ?_
          refine fz_il X hW 3 (t) rfl rfl (by omega) (by decide) dX2_noteUnlike_38 ?_
          refine lv_iconst (v := (-1)) hx hb dX2_noteUnlike_39 (by decide) ?_
          refine lv_icmp_ne (tgt := 53) hx hb dX2_noteUnlike_40 (by decide) (fun c40 => ?_) (fun c40 => ?_)
          · skip
            have h40 : ¬ v.since t = -1 := by
              have h : fz_to (nuF v) v.since t t = v.since t := fz_to_ge (Nat.le_refl _)
              rw [← h]; exact c40
            refine lv_iinc (v := nI (t + 1)) (lv' := [(1, .int (nI (t + 1))), (0, .ref (a 0))]) hx hb dX2_noteUnlike_53 hl (k := 1) rfl (nI_1 _) (by decide) rfl (fun ls hl => ?_)
            refine lv_goto (tgt := 2) hx hb dX2_noteUnlike_56 (by decide) ?_
            exact ih2 (t + 1) (by omega) (by omega) _ _ _ (fz_cast (congrArg (fun z => SW g a (SV.sinceS v z)) (fz_to_n (nuF v) v.since t (by unfold nuF; rw [if_neg c20]; exact (if_neg h40).symm))) hW) (lv_sub hl [1, 0] rfl)
          · skip
            have h40 : v.since t = -1 := by
              have h : fz_to (nuF v) v.since t t = v.since t := fz_to_ge (Nat.le_refl _)
              rw [← h]; exact c40
            refine lv_aload_n hx hb dX2_noteUnlike_43 rfl (lv_at hl 0 rfl) ?_
            refine gf_X2_18 X hW 0 rfl rfl dX2_noteUnlike_44 ?_
            refine lv_iload_n hx hb dX2_noteUnlike_47 rfl (lv_at hl 1 rfl) ?_
            refine lv_aload_n hx hb dX2_noteUnlike_48 rfl (lv_at hl 0 rfl) ?_
            refine gf_X2_56 X hW 0 rfl rfl dX2_noteUnlike_49 ?_
            refine fz_is X hW 3 (t) rfl rfl (by omega) (by decide) dX2_noteUnlike_52 (fun H locs hW => ?_)
            refine lv_iinc (v := nI (t + 1)) (lv' := [(1, .int (nI (t + 1))), (0, .ref (a 0))]) hx hb dX2_noteUnlike_53 hl (k := 1) rfl (nI_1 _) (by decide) rfl (fun ls hl => ?_)
            refine lv_goto (tgt := 2) hx hb dX2_noteUnlike_56 (by decide) ?_
            exact ih2 (t + 1) (by omega) (by omega) _ _ _ (fz_cast (congrArg (fun z => SW g a (SV.sinceS v z)) (fz_to_s (nuF v) v.since t (by unfold nuF; rw [if_neg c20]; exact (if_pos h40).symm))) hW) (lv_sub hl [1, 0] rfl)
        · skip
          have c20 : v.near t = v.far t := c20
          refine lv_aload_n hx hb dX2_noteUnlike_23 rfl (lv_at hl 0 rfl) ?_
          refine gf_X2_18 X hW 0 rfl rfl dX2_noteUnlike_24 ?_
          refine lv_iload_n hx hb dX2_noteUnlike_27 rfl (lv_at hl 1 rfl) ?_
          refine lv_iconst (v := (-1)) hx hb dX2_noteUnlike_28 (by decide) ?_
          refine fz_is X hW 3 (t) rfl rfl (by omega) (by decide) dX2_noteUnlike_29 (fun H locs hW => ?_)
          refine lv_goto (tgt := 53) hx hb dX2_noteUnlike_30 (by decide) ?_
          refine lv_iinc (v := nI (t + 1)) (lv' := [(1, .int (nI (t + 1))), (0, .ref (a 0))]) hx hb dX2_noteUnlike_53 hl (k := 1) rfl (nI_1 _) (by decide) rfl (fun ls hl => ?_)
          refine lv_goto (tgt := 2) hx hb dX2_noteUnlike_56 (by decide) ?_
          exact ih2 (t + 1) (by omega) (by omega) _ _ _ (fz_cast (congrArg (fun z => SW g a (SV.sinceS v z)) (fz_to_s (nuF v) v.since t (if_pos c20).symm)) hW) (lv_sub hl [1, 0] rfl)
  exact loop2 (48 + 1) 0 (by omega) (by omega) _ _ _ (fz_cast (congrArg (fun z => SW g a (SV.sinceS v z)) (fz_to_0 _ _).symm) hW) (lv_sub hl [1, 0] rfl)
set_option maxHeartbeats 4000000 in
set_option maxRecDepth 100000 in
theorem c_X2_settleChanges (l : Launch) (g : GG) (a : Nat → Nat) (v : SV) : fz_C l g yX2_settleChanges cX2_settleChanges 2 none 0 0 [.ref (a 0)] (SW g a v) (SW g a (scV v)) none := by
  refine fz_C.of (by decide) (Nat.le_of_ble_eq_true rfl) ?_
  intro p e s m args below meth c A ls X hW hl
  have hx := X.1
  have hb := X.2.1
  have hl : lv_has ls 2 [(0, .ref (a 0))] := hl
  have X : fz_X p s m meth c RX2 cX2_settleChanges 2 none g A := X
  have hW : fz_W g A s (SW g a v) s.heap [] := hW
  refine lv_iconst (v := 0) hx hb dX2_settleChanges_0 (by decide) ?_
  refine lv_istore_n (lv' := [(1, .int 0), (0, .ref (a 0))]) hx hb dX2_settleChanges_1 rfl hl (by decide) rfl (fun ls hl => ?_)
  have loop2 : ∀ (k : Nat) (t : Nat), t ≤ 48 → 48 < t + k → ∀ (H : Heap) (locs : List Loc) (ls : Array Slot), fz_W g A s (SW g a (v.chS (fz_to (fun t => v.ch t <<< ((1 : Int32) &&& 31) &&& 255) v.ch t))) H locs → lv_has ls 2 [(0, .ref (a 0)), (1, .int (nI t))] → W p l e (fz_R 0 0 0 0) s m args below meth c H locs 0 0 (MQ below (fz_Q g (SW g a (scV v)) none A) args s 0 0 A) (F0 m 2 ls []) := by
    intro k
    induction k with
    | zero =>
      intro t ht hk
      omega
    | succ k ih2 =>
      intro t ht hkt H locs ls hW hl
      refine lv_iload_n hx hb dX2_settleChanges_2 rfl (lv_at hl 1 rfl) ?_
      refine lv_bipush (v := 48) hx hb dX2_settleChanges_3 (by decide) ?_
      refine lv_icmp_ge (tgt := 32) hx hb dX2_settleChanges_5 (by decide) (fun c5 => ?_) (fun c5 => ?_)
      · skip
        have h5 : 48 ≤ t := (nI_leI (a := 48) (b := t) (by omega) (by omega)).mp c5
        have e5 : t = 48 := by omega
        have hl := lv_sub hl [0] rfl
        have hl : lv_has ls 2 [(0, .ref (a 0))] := hl
        exact fz_rv X (fz_cast (by rw [e5]; rfl) hW) dX2_settleChanges_32
      · skip
        have h5 : t < 48 := Nat.not_le.mp (fun z => c5 ((nI_leI (a := 48) (b := t) (by omega) (by omega)).mpr z))
        refine lv_aload_n hx hb dX2_settleChanges_8 rfl (lv_at hl 0 rfl) ?_
        refine gf_X2_21 X hW 0 rfl rfl dX2_settleChanges_9 ?_
        refine lv_iload_n hx hb dX2_settleChanges_12 rfl (lv_at hl 1 rfl) ?_
        refine lv_aload_n hx hb dX2_settleChanges_13 rfl (lv_at hl 0 rfl) ?_
        refine gf_X2_21 X hW 0 rfl rfl dX2_settleChanges_14 ?_
        refine lv_iload_n hx hb dX2_settleChanges_17 rfl (lv_at hl 1 rfl) ?_
        refine fz_il X hW 4 (t) rfl rfl (by omega) (by decide) dX2_settleChanges_18 ?_
        refine lv_iconst (v := 1) hx hb dX2_settleChanges_19 (by decide) ?_
        refine lv_ishl hx hb dX2_settleChanges_20 ?_
        refine lv_sipush (v := 255) hx hb dX2_settleChanges_21 (by decide) ?_
        refine lv_iand hx hb dX2_settleChanges_24 ?_
        refine fz_is X hW 4 (t) rfl rfl (by omega) (by decide) dX2_settleChanges_25 (fun H locs hW => ?_)
        refine lv_iinc (v := nI (t + 1)) (lv' := [(1, .int (nI (t + 1))), (0, .ref (a 0))]) hx hb dX2_settleChanges_26 hl (k := 1) rfl (nI_1 _) (by decide) rfl (fun ls hl => ?_)
        refine lv_goto (tgt := 2) hx hb dX2_settleChanges_29 (by decide) ?_
        exact ih2 (t + 1) (by omega) (by omega) _ _ _ (fz_cast (congrArg (fun z => SW g a (SV.chS v z)) (fz_to_s (fun t => v.ch t <<< ((1 : Int32) &&& 31) &&& 255) v.ch t (by show fz_to (fun t => v.ch t <<< ((1 : Int32) &&& 31) &&& 255) v.ch t t <<< ((1 : Int32) &&& 31) &&& 255 = _; rw [fz_to_ge (Nat.le_refl _)]))) hW) (lv_sub hl [1, 0] rfl)
  exact loop2 (48 + 1) 0 (by omega) (by omega) _ _ _ (fz_cast (congrArg (fun z => SW g a (SV.chS v z)) (fz_to_0 _ _).symm) hW) (lv_sub hl [1, 0] rfl)
set_option maxHeartbeats 4000000 in
set_option maxRecDepth 100000 in
theorem c_X2_kindOf (l : Launch) (g : GG) (a : Nat → Nat) (v : SV) (t : Nat) (ht : t < 48) : fz_C l g yX2_kindOf cX2_kindOf 2 (some .int) 1 20 [.ref (a 0), .int (nI t)] (SW g a v) (SW g a v) (some (.int (kdI v t))) := by
  refine fz_C.of (by decide) (Nat.le_of_ble_eq_true rfl) ?_
  intro p e s m args below meth c A ls X hW hl
  have hx := X.1
  have hb := X.2.1
  have hl : lv_has ls 2 [(0, .ref (a 0)), (1, .int (nI t))] := hl
  have X : fz_X p s m meth c RX2 cX2_kindOf 2 (some .int) g A := X
  have hW : fz_W g A s (SW g a v) s.heap [] := hW
  refine lv_aload_n hx hb dX2_kindOf_0 rfl (lv_at hl 0 rfl) ?_
  refine gf_X2_21 X hW 0 rfl rfl dX2_kindOf_1 ?_
  refine lv_iload_n hx hb dX2_kindOf_4 rfl (lv_at hl 1 rfl) ?_
  refine fz_il X hW 4 (t) rfl rfl (by omega) (by decide) dX2_kindOf_5 ?_
  refine fz_cSi X hW (c_J6_bitCount_0f7a4 l g _ _) lk_X2_94 rfl ⟨Nat.le_of_ble_eq_true rfl, Nat.le_of_ble_eq_true rfl⟩ hl rfl (Nat.le_of_ble_eq_true rfl) dX2_kindOf_6 ⟨Nat.le_refl _, Nat.le_refl _⟩ (fun H locs hW => ?_)
  refine lv_iconst (v := 4) hx hb dX2_kindOf_9 (by decide) ?_
  refine lv_icmp_lt (tgt := 15) hx hb dX2_kindOf_10 (by decide) (fun c10 => ?_) (fun c10 => ?_)
  · skip
    refine lv_aload_n hx hb dX2_kindOf_15 rfl (lv_at hl 0 rfl) ?_
    refine gf_X2_9 X hW 0 rfl rfl dX2_kindOf_16 ?_
    refine lv_iload_n hx hb dX2_kindOf_19 rfl (lv_at hl 1 rfl) ?_
    refine fz_il X hW 1 (t) rfl rfl (by omega) (by decide) dX2_kindOf_20 ?_
    refine lv_bipush (v := 64) hx hb dX2_kindOf_21 (by decide) ?_
    refine lv_icmp_ge (tgt := 30) hx hb dX2_kindOf_23 (by decide) (fun c23 => ?_) (fun c23 => ?_)
    · skip
      refine lv_iconst (v := 1) hx hb dX2_kindOf_30 (by decide) ?_
      exact fz_ri X (fz_cast (rfl) hW) (by unfold kdI; first | exact (if_neg c10).symm | (rw [if_pos c10]; first | exact (if_neg (Int32.not_lt.mpr c23)).symm | exact (if_pos (Int32.not_le.mp c23)).symm)) dX2_kindOf_31
    · skip
      refine lv_iconst (v := 0) hx hb dX2_kindOf_26 (by decide) ?_
      refine lv_goto (tgt := 31) hx hb dX2_kindOf_27 (by decide) ?_
      exact fz_ri X (fz_cast (rfl) hW) (by unfold kdI; first | exact (if_neg c10).symm | (rw [if_pos c10]; first | exact (if_neg (Int32.not_lt.mpr c23)).symm | exact (if_pos (Int32.not_le.mp c23)).symm)) dX2_kindOf_31
  · skip
    refine lv_iconst (v := 2) hx hb dX2_kindOf_13 (by decide) ?_
    exact fz_ri X (fz_cast (rfl) hW) (by unfold kdI; first | exact (if_neg c10).symm | (rw [if_pos c10]; first | exact (if_neg (Int32.not_lt.mpr c23)).symm | exact (if_pos (Int32.not_le.mp c23)).symm)) dX2_kindOf_14
set_option maxHeartbeats 4000000 in
set_option maxRecDepth 100000 in
theorem c_X2_hasFilm (l : Launch) (g : GG) (a : Nat → Nat) (v : SV) : fz_C l g yX2_hasFilm cX2_hasFilm 2 (some .boolean) 2 41 [.ref (a 0)] (SW g a v) (SW g a v) (some (.int (hfF v 0 48))) := by
  refine fz_C.of (by decide) (Nat.le_of_ble_eq_true rfl) ?_
  intro p e s m args below meth c A ls X hW hl
  have hx := X.1
  have hb := X.2.1
  have hl : lv_has ls 2 [(0, .ref (a 0))] := hl
  have X : fz_X p s m meth c RX2 cX2_hasFilm 2 (some .boolean) g A := X
  have hW : fz_W g A s (SW g a v) s.heap [] := hW
  refine lv_iconst (v := 0) hx hb dX2_hasFilm_0 (by decide) ?_
  refine lv_istore_n (lv' := [(1, .int 0), (0, .ref (a 0))]) hx hb dX2_hasFilm_1 rfl hl (by decide) rfl (fun ls hl => ?_)
  have loop2 : ∀ (k : Nat) (t : Nat), t ≤ 48 → 48 < t + k → hfF v 0 48 = hfF v t (48 - t) → ∀ (H : Heap) (locs : List Loc) (ls : Array Slot), fz_W g A s (SW g a v) H locs → lv_has ls 2 [(0, .ref (a 0)), (1, .int (nI t))] → W p l e (fz_R 2 0 0 41) s m args below meth c H locs 0 0 (MQ below (fz_Q g (SW g a v) (some (.int (hfF v 0 48))) A) args s 0 0 A) (F0 m 2 ls []) := by
    intro k
    induction k with
    | zero =>
      intro t ht hk
      omega
    | succ k ih2 =>
      intro t ht hk he H locs ls hW hl
      refine lv_iload_n hx hb dX2_hasFilm_2 rfl (lv_at hl 1 rfl) ?_
      refine lv_bipush (v := 48) hx hb dX2_hasFilm_3 (by decide) ?_
      refine lv_icmp_ge (tgt := 25) hx hb dX2_hasFilm_5 (by decide) (fun c5 => ?_) (fun c5 => ?_)
      · skip
        have h5 : 48 ≤ t := (nI_leI (a := 48) (b := t) (by omega) (by omega)).mp c5
        have e5 : t = 48 := by omega
        have hl := lv_sub hl [0] rfl
        have hl : lv_has ls 2 [(0, .ref (a 0))] := hl
        refine lv_iconst (v := 0) hx hb dX2_hasFilm_25 (by decide) ?_
        exact fz_rz X (fz_cast (rfl) hW) (by rw [he, show 48 - t = 0 by omega]; rfl) (fz_01 (hfF_01 v 48 0)) dX2_hasFilm_26
      · skip
        have h5 : t < 48 := Nat.not_le.mp (fun z => c5 ((nI_leI (a := 48) (b := t) (by omega) (by omega)).mpr z))
        refine lv_aload_n hx hb dX2_hasFilm_8 rfl (lv_at hl 0 rfl) ?_
        refine lv_iload_n hx hb dX2_hasFilm_9 rfl (lv_at hl 1 rfl) ?_
        refine fz_cVi X hW (c_X2_kindOf l g a v t (by omega)) lk_X2_100 (ci := 2) (q0 := 0) rfl rfl rfl rfl ⟨Nat.le_of_ble_eq_true rfl, Nat.le_of_ble_eq_true rfl⟩ hl rfl (Nat.le_of_ble_eq_true rfl) dX2_hasFilm_10 ⟨Nat.le_refl _, Nat.le_refl _⟩ (fun H locs hW => ?_)
        refine lv_iconst (v := 2) hx hb dX2_hasFilm_13 (by decide) ?_
        refine lv_icmp_ne (tgt := 19) hx hb dX2_hasFilm_14 (by decide) (fun c14 => ?_) (fun c14 => ?_)
        · skip
          refine lv_iinc (v := nI (t + 1)) (lv' := [(1, .int (nI (t + 1))), (0, .ref (a 0))]) hx hb dX2_hasFilm_19 hl (k := 1) rfl (nI_1 _) (by decide) rfl (fun ls hl => ?_)
          refine lv_goto (tgt := 2) hx hb dX2_hasFilm_22 (by decide) ?_
          exact ih2 (t + 1) (by omega) (by omega) (by rw [he, show 48 - t = (48 - (t + 1)) + 1 by omega]; exact if_neg c14) _ _ _ (fz_cast (rfl) hW) (lv_sub hl [1, 0] rfl)
        · skip
          refine lv_iconst (v := 1) hx hb dX2_hasFilm_17 (by decide) ?_
          exact fz_rz X (fz_cast (rfl) hW) (by rw [he, show 48 - t = (48 - (t + 1)) + 1 by omega]; exact (if_pos c14).symm) (fz_01 (hfF_01 v 48 0)) dX2_hasFilm_18
  exact loop2 49 0 (by omega) (by omega) rfl _ _ _ (fz_cast (rfl) hW) (lv_sub hl [1, 0] rfl)
set_option maxHeartbeats 4000000 in
set_option maxRecDepth 100000 in
theorem c_X2_unlikeSet (l : Launch) (g : GG) (a : Nat → Nat) (v : SV) : fz_C l g yX2_unlikeSet cX2_unlikeSet 4 (some .long) 0 0 [.ref (a 0)] (SW g a v) (SW g a v) (some (.long (usF v 48))) := by
  refine fz_C.of (by decide) (Nat.le_of_ble_eq_true rfl) ?_
  intro p e s m args below meth c A ls X hW hl
  have hx := X.1
  have hb := X.2.1
  have hl : lv_has ls 4 [(0, .ref (a 0))] := hl
  have X : fz_X p s m meth c RX2 cX2_unlikeSet 4 (some .long) g A := X
  have hW : fz_W g A s (SW g a v) s.heap [] := hW
  refine lv_lconst (v := 0) hx hb dX2_unlikeSet_0 (by decide) ?_
  refine lv_lstore_n (lv' := [(1, .long 0), (0, .ref (a 0))]) hx hb dX2_unlikeSet_1 rfl hl (by decide) rfl (fun ls hl => ?_)
  refine lv_iconst (v := 0) hx hb dX2_unlikeSet_2 (by decide) ?_
  refine lv_istore_n (lv' := [(3, .int 0), (1, .long 0), (0, .ref (a 0))]) hx hb dX2_unlikeSet_3 rfl hl (by decide) rfl (fun ls hl => ?_)
  have loop4 : ∀ (k : Nat) (t : Nat) (z : Int64), t ≤ 48 → 48 < t + k → z = usF v t → ∀ (H : Heap) (locs : List Loc) (ls : Array Slot), fz_W g A s (SW g a v) H locs → lv_has ls 4 [(0, .ref (a 0)), (1, .long z), (3, .int (nI t))] → W p l e (fz_R 0 0 0 0) s m args below meth c H locs 0 0 (MQ below (fz_Q g (SW g a v) (some (.long (usF v 48))) A) args s 0 0 A) (F0 m 4 ls []) := by
    intro k
    induction k with
    | zero =>
      intro t z ht hk
      omega
    | succ k ih4 =>
      intro t z ht hk hz H locs ls hW hl
      refine lv_iload_n hx hb dX2_unlikeSet_4 rfl (lv_at hl 2 rfl) ?_
      refine lv_bipush (v := 48) hx hb dX2_unlikeSet_5 (by decide) ?_
      refine lv_icmp_ge (tgt := 32) hx hb dX2_unlikeSet_7 (by decide) (fun c7 => ?_) (fun c7 => ?_)
      · skip
        have h7 : 48 ≤ t := (nI_leI (a := 48) (b := t) (by omega) (by omega)).mp c7
        have e7 : t = 48 := by omega
        have hl := lv_sub hl [0, 1] rfl
        have hl : lv_has ls 4 [(0, .ref (a 0)), (1, .long z)] := hl
        refine lv_lload_n hx hb dX2_unlikeSet_32 rfl (lv_at hl 1 rfl) ?_
        exact fz_rl X (fz_cast (rfl) hW) (by rw [hz, e7]) dX2_unlikeSet_33
      · skip
        have h7 : t < 48 := Nat.not_le.mp (fun z => c7 ((nI_leI (a := 48) (b := t) (by omega) (by omega)).mpr z))
        refine lv_aload_n hx hb dX2_unlikeSet_10 rfl (lv_at hl 0 rfl) ?_
        refine gf_X2_18 X hW 0 rfl rfl dX2_unlikeSet_11 ?_
        refine lv_iload_n hx hb dX2_unlikeSet_14 rfl (lv_at hl 2 rfl) ?_
        refine fz_il X hW 3 (t) rfl rfl (by omega) (by decide) dX2_unlikeSet_15 ?_
        refine lv_iconst (v := (-1)) hx hb dX2_unlikeSet_16 (by decide) ?_
        refine lv_icmp_eq (tgt := 26) hx hb dX2_unlikeSet_17 (by decide) (fun c17 => ?_) (fun c17 => ?_)
        · skip
          refine lv_iinc (v := nI (t + 1)) (lv' := [(3, .int (nI (t + 1))), (0, .ref (a 0)), (1, .long z)]) hx hb dX2_unlikeSet_26 hl (k := 2) rfl (nI_1 _) (by decide) rfl (fun ls hl => ?_)
          refine lv_goto (tgt := 4) hx hb dX2_unlikeSet_29 (by decide) ?_
          exact ih4 (t + 1) _ (by omega) (by omega) (by rw [hz]; exact (if_pos c17).symm) _ _ _ (fz_cast (rfl) hW) (lv_sub hl [1, 2, 0] rfl)
        · skip
          refine lv_lload_n hx hb dX2_unlikeSet_20 rfl (lv_at hl 1 rfl) ?_
          refine lv_lconst (v := 1) hx hb dX2_unlikeSet_21 (by decide) ?_
          refine lv_iload_n hx hb dX2_unlikeSet_22 rfl (lv_at hl 2 rfl) ?_
          refine lv_lshl hx hb dX2_unlikeSet_23 rfl ?_
          refine lv_lor hx hb dX2_unlikeSet_24 ?_
          refine lv_lstore_n (lv' := [(1, .long (z ||| (1 <<< ((nI t).toInt64 &&& 63)))), (0, .ref (a 0)), (3, .int (nI t))]) hx hb dX2_unlikeSet_25 rfl hl (by decide) rfl (fun ls hl => ?_)
          refine lv_iinc (v := nI (t + 1)) (lv' := [(3, .int (nI (t + 1))), (1, .long (z ||| (1 <<< ((nI t).toInt64 &&& 63)))), (0, .ref (a 0))]) hx hb dX2_unlikeSet_26 hl (k := 2) rfl (nI_1 _) (by decide) rfl (fun ls hl => ?_)
          refine lv_goto (tgt := 4) hx hb dX2_unlikeSet_29 (by decide) ?_
          exact ih4 (t + 1) _ (by omega) (by omega) (by rw [hz]; exact (if_neg c17).symm) _ _ _ (fz_cast (rfl) hW) (lv_sub hl [2, 1, 0] rfl)
  exact loop4 49 0 0 (by omega) (by omega) rfl _ _ _ (fz_cast (rfl) hW) (lv_sub hl [2, 1, 0] rfl)
set_option maxHeartbeats 4000000 in
set_option maxRecDepth 100000 in
theorem c_X2_countUnlike (l : Launch) (g : GG) (a : Nat → Nat) (v : SV) : fz_C l g yX2_countUnlike cX2_countUnlike 1 (some .int) 1 23 [.ref (a 0)] (SW g a v) (SW g a v) (some (.int (bcL (usF v 48)))) := by
  refine fz_C.of (by decide) (Nat.le_of_ble_eq_true rfl) ?_
  intro p e s m args below meth c A ls X hW hl
  have hx := X.1
  have hb := X.2.1
  have hl : lv_has ls 1 [(0, .ref (a 0))] := hl
  have X : fz_X p s m meth c RX2 cX2_countUnlike 1 (some .int) g A := X
  have hW : fz_W g A s (SW g a v) s.heap [] := hW
  refine lv_aload_n hx hb dX2_countUnlike_0 rfl (lv_at hl 0 rfl) ?_
  refine fz_cVl X hW (c_X2_unlikeSet l g a v) lk_X2_103 (ci := 2) (q0 := 0) rfl rfl rfl rfl ⟨Nat.le_of_ble_eq_true rfl, Nat.le_of_ble_eq_true rfl⟩ hl rfl (Nat.le_of_ble_eq_true rfl) dX2_countUnlike_1 ⟨Nat.le_refl _, Nat.le_refl _⟩ (fun H locs hW => ?_)
  refine fz_cSi X hW (c_J13_bitCount_95d88 l g _ _) lk_X2_107 rfl ⟨Nat.le_of_ble_eq_true rfl, Nat.le_of_ble_eq_true rfl⟩ hl rfl (Nat.le_of_ble_eq_true rfl) dX2_countUnlike_4 ⟨Nat.le_refl _, Nat.le_refl _⟩ (fun H locs hW => ?_)
  exact fz_ri X (fz_cast (rfl) hW) (rfl) dX2_countUnlike_7
set_option maxHeartbeats 4000000 in
set_option maxRecDepth 100000 in
theorem c_X2_countRough (l : Launch) (g : GG) (a : Nat → Nat) (v : SV) : fz_C l g yX2_countRough cX2_countRough 3 (some .int) 0 0 [.ref (a 0)] (SW g a v) (SW g a v) (some (.int (crF v 48))) := by
  refine fz_C.of (by decide) (Nat.le_of_ble_eq_true rfl) ?_
  intro p e s m args below meth c A ls X hW hl
  have hx := X.1
  have hb := X.2.1
  have hl : lv_has ls 3 [(0, .ref (a 0))] := hl
  have X : fz_X p s m meth c RX2 cX2_countRough 3 (some .int) g A := X
  have hW : fz_W g A s (SW g a v) s.heap [] := hW
  refine lv_iconst (v := 0) hx hb dX2_countRough_0 (by decide) ?_
  refine lv_istore_n (lv' := [(1, .int 0), (0, .ref (a 0))]) hx hb dX2_countRough_1 rfl hl (by decide) rfl (fun ls hl => ?_)
  refine lv_iconst (v := 0) hx hb dX2_countRough_2 (by decide) ?_
  refine lv_istore_n (lv' := [(2, .int 0), (1, .int 0), (0, .ref (a 0))]) hx hb dX2_countRough_3 rfl hl (by decide) rfl (fun ls hl => ?_)
  have loop4 : ∀ (k : Nat) (t : Nat) (z : Int32), t ≤ 48 → 48 < t + k → z = crF v t → ∀ (H : Heap) (locs : List Loc) (ls : Array Slot), fz_W g A s (SW g a v) H locs → lv_has ls 3 [(0, .ref (a 0)), (1, .int z), (2, .int (nI t))] → W p l e (fz_R 0 0 0 0) s m args below meth c H locs 0 0 (MQ below (fz_Q g (SW g a v) (some (.int (crF v 48))) A) args s 0 0 A) (F0 m 4 ls []) := by
    intro k
    induction k with
    | zero =>
      intro t z ht hk
      omega
    | succ k ih4 =>
      intro t z ht hk hz H locs ls hW hl
      refine lv_iload_n hx hb dX2_countRough_4 rfl (lv_at hl 2 rfl) ?_
      refine lv_bipush (v := 48) hx hb dX2_countRough_5 (by decide) ?_
      refine lv_icmp_ge (tgt := 31) hx hb dX2_countRough_7 (by decide) (fun c7 => ?_) (fun c7 => ?_)
      · skip
        have h7 : 48 ≤ t := (nI_leI (a := 48) (b := t) (by omega) (by omega)).mp c7
        have e7 : t = 48 := by omega
        have hl := lv_sub hl [0, 1] rfl
        have hl : lv_has ls 3 [(0, .ref (a 0)), (1, .int z)] := hl
        refine lv_iload_n hx hb dX2_countRough_31 rfl (lv_at hl 1 rfl) ?_
        exact fz_ri X (fz_cast (rfl) hW) (by rw [hz, e7]) dX2_countRough_32
      · skip
        have h7 : t < 48 := Nat.not_le.mp (fun z => c7 ((nI_leI (a := 48) (b := t) (by omega) (by omega)).mpr z))
        refine lv_aload_n hx hb dX2_countRough_10 rfl (lv_at hl 0 rfl) ?_
        refine gf_X2_15 X hW 0 rfl rfl dX2_countRough_11 ?_
        refine lv_iload_n hx hb dX2_countRough_14 rfl (lv_at hl 2 rfl) ?_
        refine fz_il X hW 2 (t) rfl rfl (by omega) (by decide) dX2_countRough_15 ?_
        refine lv_sipush (v := 1000) hx hb dX2_countRough_16 (by decide) ?_
        refine lv_icmp_lt (tgt := 25) hx hb dX2_countRough_19 (by decide) (fun c19 => ?_) (fun c19 => ?_)
        · skip
          refine lv_iinc (v := nI (t + 1)) (lv' := [(2, .int (nI (t + 1))), (0, .ref (a 0)), (1, .int z)]) hx hb dX2_countRough_25 hl (k := 2) rfl (nI_1 _) (by decide) rfl (fun ls hl => ?_)
          refine lv_goto (tgt := 4) hx hb dX2_countRough_28 (by decide) ?_
          exact ih4 (t + 1) _ (by omega) (by omega) (by rw [hz]; exact (if_pos c19).symm) _ _ _ (fz_cast (rfl) hW) (lv_sub hl [1, 2, 0] rfl)
        · skip
          refine lv_iinc (v := z + 1) (lv' := [(1, .int (z + 1)), (0, .ref (a 0)), (2, .int (nI t))]) hx hb dX2_countRough_22 hl (k := 1) rfl rfl (by decide) rfl (fun ls hl => ?_)
          refine lv_iinc (v := nI (t + 1)) (lv' := [(2, .int (nI (t + 1))), (1, .int (z + 1)), (0, .ref (a 0))]) hx hb dX2_countRough_25 hl (k := 2) rfl (nI_1 _) (by decide) rfl (fun ls hl => ?_)
          refine lv_goto (tgt := 4) hx hb dX2_countRough_28 (by decide) ?_
          exact ih4 (t + 1) _ (by omega) (by omega) (by rw [hz]; exact (if_neg c19).symm) _ _ _ (fz_cast (rfl) hW) (lv_sub hl [2, 1, 0] rfl)
  exact loop4 49 0 0 (by omega) (by omega) rfl _ _ _ (fz_cast (rfl) hW) (lv_sub hl [2, 1, 0] rfl)
set_option maxHeartbeats 4000000 in
set_option maxRecDepth 100000 in
theorem c_X2_isAllSent (l : Launch) (g : GG) (a : Nat → Nat) (v : SV) (hwm : v.wm ≤ 4) : fz_C l g yX2_isAllSent cX2_isAllSent 1 (some .boolean) 1 23 [.ref (a 0)] (SW g a v) (SW g a v) (some (.int (alI v))) := by
  refine fz_C.of (by decide) (Nat.le_of_ble_eq_true rfl) ?_
  intro p e s m args below meth c A ls X hW hl
  have hx := X.1
  have hb := X.2.1
  have hl : lv_has ls 1 [(0, .ref (a 0))] := hl
  have X : fz_X p s m meth c RX2 cX2_isAllSent 1 (some .boolean) g A := X
  have hW : fz_W g A s (SW g a v) s.heap [] := hW
  refine lv_aload_n hx hb dX2_isAllSent_0 rfl (lv_at hl 0 rfl) ?_
  refine gf_X2_39 X hW 0 rfl rfl dX2_isAllSent_1 ?_
  refine lv_if_ne (tgt := 20) hx hb dX2_isAllSent_4 (by decide) (fun c4 => ?_) (fun c4 => ?_)
  · skip
    have h4 : ¬ v.wm = 0 := fun z => c4 (by rw [z]; rfl)
    refine lv_iconst (v := 0) hx hb dX2_isAllSent_20 (by decide) ?_
    exact fz_rz X (fz_cast (rfl) hW) (by unfold alI; first | exact (if_neg h4).symm | (rw [if_pos h4]; first | exact (if_neg h13).symm | exact (if_pos h13).symm)) (fz_01 (alI_01 v)) dX2_isAllSent_21
  · skip
    have h4 : v.wm = 0 := (nI_eq (a := v.wm) (b := 0) (by omega) (by omega)).mp c4
    refine lv_aload_n hx hb dX2_isAllSent_7 rfl (lv_at hl 0 rfl) ?_
    refine fz_cVl X hW (c_X2_unlikeSet l g a v) lk_X2_103 (ci := 2) (q0 := 0) rfl rfl rfl rfl ⟨Nat.le_of_ble_eq_true rfl, Nat.le_of_ble_eq_true rfl⟩ hl rfl (Nat.le_of_ble_eq_true rfl) dX2_isAllSent_8 ⟨Nat.le_refl _, Nat.le_refl _⟩ (fun H locs hW => ?_)
    refine lv_lconst (v := 0) hx hb dX2_isAllSent_11 (by decide) ?_
    refine W.lcmp hx hb dX2_isAllSent_12 ?_
    refine lv_if_ne (tgt := 20) hx hb dX2_isAllSent_13 (by decide) (fun c13 => ?_) (fun c13 => ?_)
    · skip
      have h13 : ¬ usF v 48 = 0 := fun z => c13 ((lg_cmp_eq _ _).mpr z)
      refine lv_iconst (v := 0) hx hb dX2_isAllSent_20 (by decide) ?_
      exact fz_rz X (fz_cast (rfl) hW) (by unfold alI; first | exact (if_neg h4).symm | (rw [if_pos h4]; first | exact (if_neg h13).symm | exact (if_pos h13).symm)) (fz_01 (alI_01 v)) dX2_isAllSent_21
    · skip
      have h13 : usF v 48 = 0 := (lg_cmp_eq _ _).mp c13
      refine lv_iconst (v := 1) hx hb dX2_isAllSent_16 (by decide) ?_
      refine lv_goto (tgt := 21) hx hb dX2_isAllSent_17 (by decide) ?_
      exact fz_rz X (fz_cast (rfl) hW) (by unfold alI; first | exact (if_neg h4).symm | (rw [if_pos h4]; first | exact (if_neg h13).symm | exact (if_pos h13).symm)) (fz_01 (alI_01 v)) dX2_isAllSent_21
set_option maxHeartbeats 4000000 in
set_option maxRecDepth 100000 in
theorem c_X2_isLookedAt (l : Launch) (g : GG) (a : Nat → Nat) (v : SV) (t : Nat) : fz_C l g yX2_isLookedAt cX2_isLookedAt 4 (some .boolean) 1 32 [.ref (a 0), .int (nI t)] (SW g a v) (SW g a v) (some (.int (lkI v.la t))) := by
  refine fz_C.of (by decide) (Nat.le_of_ble_eq_true rfl) ?_
  intro p e s m args below meth c A ls X hW hl
  have hx := X.1
  have hb := X.2.1
  have hl : lv_has ls 4 [(0, .ref (a 0)), (1, .int (nI t))] := hl
  have X : fz_X p s m meth c RX2 cX2_isLookedAt 4 (some .boolean) g A := X
  have hW : fz_W g A s (SW g a v) s.heap [] := hW
  refine lv_iload_n hx hb dX2_isLookedAt_0 rfl (lv_at hl 1 rfl) ?_
  refine lv_bipush (v := 8) hx hb dX2_isLookedAt_1 (by decide) ?_
  refine lv_irem hx hb dX2_isLookedAt_3 (by decide) ?_
  refine lv_aload_n hx hb dX2_isLookedAt_4 rfl (lv_at hl 0 rfl) ?_
  refine gf_X2_59 X hW 0 rfl rfl dX2_isLookedAt_5 ?_
  refine lv_bipush (v := 8) hx hb dX2_isLookedAt_8 (by decide) ?_
  refine lv_irem hx hb dX2_isLookedAt_10 (by decide) ?_
  refine lv_isub hx hb dX2_isLookedAt_11 ?_
  refine fz_abs X hl (Nat.le_of_ble_eq_true rfl) (Nat.le_of_ble_eq_true rfl) dX2_isLookedAt_12 ⟨Nat.zero_le _, Nat.zero_le _⟩ ?_
  refine lv_istore_n (lv' := [(2, .int (absI (((nI t) - (nI t) / 8 * 8) - ((nI v.la) - (nI v.la) / 8 * 8)))), (0, .ref (a 0)), (1, .int (nI t))]) hx hb dX2_isLookedAt_15 rfl hl (by decide) rfl (fun ls hl => ?_)
  refine lv_iload_n hx hb dX2_isLookedAt_16 rfl (lv_at hl 2 rfl) ?_
  refine lv_bipush (v := 8) hx hb dX2_isLookedAt_17 (by decide) ?_
  refine lv_idiv hx hb dX2_isLookedAt_19 (by decide) ?_
  refine lv_aload_n hx hb dX2_isLookedAt_20 rfl (lv_at hl 1 rfl) ?_
  refine gf_X2_59 X hW 0 rfl rfl dX2_isLookedAt_21 ?_
  refine lv_bipush (v := 8) hx hb dX2_isLookedAt_24 (by decide) ?_
  refine lv_idiv hx hb dX2_isLookedAt_26 (by decide) ?_
  refine lv_isub hx hb dX2_isLookedAt_27 ?_
  refine fz_abs X hl (Nat.le_of_ble_eq_true rfl) (Nat.le_of_ble_eq_true rfl) dX2_isLookedAt_28 ⟨Nat.zero_le _, Nat.zero_le _⟩ ?_
  refine lv_istore_n (lv' := [(3, .int (absI (((nI t) / 8) - ((nI v.la) / 8)))), (2, .int (absI (((nI t) - (nI t) / 8 * 8) - ((nI v.la) - (nI v.la) / 8 * 8)))), (0, .ref (a 0)), (1, .int (nI t))]) hx hb dX2_isLookedAt_31 rfl hl (by decide) rfl (fun ls hl => ?_)
  refine lv_iload_n hx hb dX2_isLookedAt_32 rfl (lv_at hl 1 rfl) ?_
  refine lv_iconst (v := 1) hx hb dX2_isLookedAt_33 (by decide) ?_
  refine lv_icmp_gt (tgt := 46) hx hb dX2_isLookedAt_34 (by decide) (fun c34 => ?_) (fun c34 => ?_)
  · skip
    refine lv_iconst (v := 0) hx hb dX2_isLookedAt_46 (by decide) ?_
    exact fz_rz X (fz_cast (rfl) hW) (by unfold lkI; first | exact (if_pos c34).symm | (rw [if_neg c34]; first | exact (if_pos c39).symm | exact (if_neg c39).symm)) (fz_01 (lkI_01 _ _)) dX2_isLookedAt_47
  · skip
    refine lv_iload_n hx hb dX2_isLookedAt_37 rfl (lv_at hl 0 rfl) ?_
    refine lv_iconst (v := 1) hx hb dX2_isLookedAt_38 (by decide) ?_
    refine lv_icmp_gt (tgt := 46) hx hb dX2_isLookedAt_39 (by decide) (fun c39 => ?_) (fun c39 => ?_)
    · skip
      refine lv_iconst (v := 0) hx hb dX2_isLookedAt_46 (by decide) ?_
      exact fz_rz X (fz_cast (rfl) hW) (by unfold lkI; first | exact (if_pos c34).symm | (rw [if_neg c34]; first | exact (if_pos c39).symm | exact (if_neg c39).symm)) (fz_01 (lkI_01 _ _)) dX2_isLookedAt_47
    · skip
      refine lv_iconst (v := 1) hx hb dX2_isLookedAt_42 (by decide) ?_
      refine lv_goto (tgt := 47) hx hb dX2_isLookedAt_43 (by decide) ?_
      exact fz_rz X (fz_cast (rfl) hW) (by unfold lkI; first | exact (if_pos c34).symm | (rw [if_neg c34]; first | exact (if_pos c39).symm | exact (if_neg c39).symm)) (fz_01 (lkI_01 _ _)) dX2_isLookedAt_47
set_option maxHeartbeats 4000000 in
set_option maxRecDepth 100000 in
theorem c_X2_worthOf (l : Launch) (g : GG) (a : Nat → Nat) (v : SV) (t : Nat) (ht : t < 48) : fz_C l g yX2_worthOf cX2_worthOf 3 (some .int) 2 55 [.ref (a 0), .int (nI t)] (SW g a v) (SW g a v) (some (.int (woI v t))) := by
  refine fz_C.of (by decide) (Nat.le_of_ble_eq_true rfl) ?_
  intro p e s m args below meth c A ls X hW hl
  have hx := X.1
  have hb := X.2.1
  have hl : lv_has ls 3 [(0, .ref (a 0)), (1, .int (nI t))] := hl
  have X : fz_X p s m meth c RX2 cX2_worthOf 3 (some .int) g A := X
  have hW : fz_W g A s (SW g a v) s.heap [] := hW
  refine lv_aload_n hx hb dX2_worthOf_0 rfl (lv_at hl 0 rfl) ?_
  refine gf_X2_56 X hW 0 rfl rfl dX2_worthOf_1 ?_
  refine lv_aload_n hx hb dX2_worthOf_4 rfl (lv_at hl 0 rfl) ?_
  refine gf_X2_18 X hW 0 rfl rfl dX2_worthOf_5 ?_
  refine lv_iload_n hx hb dX2_worthOf_8 rfl (lv_at hl 1 rfl) ?_
  refine fz_il X hW 3 (t) rfl rfl (by omega) (by decide) dX2_worthOf_9 ?_
  refine lv_isub hx hb dX2_worthOf_10 ?_
  refine lv_istore_n (lv' := [(2, .int _), (0, .ref (a 0)), (1, .int (nI t))]) hx hb dX2_worthOf_11 rfl hl (by decide) rfl (fun ls hl => ?_)
  refine lv_aload_n hx hb dX2_worthOf_12 rfl (lv_at hl 1 rfl) ?_
  refine lv_iload_n hx hb dX2_worthOf_13 rfl (lv_at hl 2 rfl) ?_
  refine fz_cVi X hW (c_X2_isLookedAt l g a v t) lk_X2_139 (ci := 2) (q0 := 0) rfl rfl rfl rfl ⟨Nat.le_of_ble_eq_true rfl, Nat.le_of_ble_eq_true rfl⟩ hl rfl (Nat.le_of_ble_eq_true rfl) dX2_worthOf_14 ⟨Nat.le_refl _, Nat.le_refl _⟩ (fun H locs hW => ?_)
  refine lv_if_eq (tgt := 26) hx hb dX2_worthOf_17 (by decide) (fun c17 => ?_) (fun c17 => ?_)
  · skip
    refine lv_iload_n hx hb dX2_worthOf_26 rfl (lv_at hl 0 rfl) ?_
    exact fz_ri X (fz_cast (rfl) hW) (by unfold woI; first | exact (if_pos c17).symm | exact (if_neg c17).symm) dX2_worthOf_27
  · skip
    refine lv_iload_n hx hb dX2_worthOf_20 rfl (lv_at hl 0 rfl) ?_
    refine lv_iconst (v := 5) hx hb dX2_worthOf_21 (by decide) ?_
    refine lv_iadd hx hb dX2_worthOf_22 ?_
    refine lv_goto (tgt := 27) hx hb dX2_worthOf_23 (by decide) ?_
    exact fz_ri X (fz_cast (rfl) hW) (by unfold woI; first | exact (if_pos c17).symm | exact (if_neg c17).symm) dX2_worthOf_27
end
section
set_option maxHeartbeats 4000000 in
set_option maxRecDepth 100000 in
theorem c_X2_insertInOrder (l : Launch) (g : GG) (a : Nat → Nat) (v : SV) (t cn : Nat) (ht : t < 48) (hc : cn < 48) (ho : ∀ j, j < cn → ∃ u, u < 48 ∧ v.order j = nI u) : fz_C l g yX2_insertInOrder cX2_insertInOrder 4 none 0 0 [.ref (a 0), .int (nI t), .int (nI cn)] (SW g a v) (SW g a (v.orderS (insF v.worths t cn v.order))) none := by
  refine fz_C.of (by decide) (Nat.le_of_ble_eq_true rfl) ?_
  intro p e s m args below meth c A ls X hW hl
  have hx := X.1
  have hb := X.2.1
  have hl : lv_has ls 4 [(0, .ref (a 0)), (1, .int (nI t)), (2, .int (nI cn))] := hl
  have X : fz_X p s m meth c RX2 cX2_insertInOrder 4 none g A := X
  have hW : fz_W g A s (SW g a v) s.heap [] := hW
  refine lv_iload_n hx hb dX2_insertInOrder_0 rfl (lv_at hl 2 rfl) ?_
  refine lv_istore_n (lv' := [(3, .int (nI cn)), (0, .ref (a 0)), (1, .int (nI t)), (2, .int (nI cn))]) hx hb dX2_insertInOrder_1 rfl hl (by decide) rfl (fun ls hl => ?_)
  have loop2 : ∀ (k : Nat) (y : Nat) (o : Nat → Int32), y ≤ cn → y < k → (∀ j, j < y → ∃ u, u < 48 ∧ o j = nI u) → insF v.worths t cn v.order = insF v.worths t y o → ∀ (H : Heap) (locs : List Loc) (ls : Array Slot), fz_W g A s (SW g a (v.orderS o)) H locs → lv_has ls 4 [(0, .ref (a 0)), (1, .int (nI t)), (2, .int (nI cn)), (3, .int (nI y))] → W p l e (fz_R 0 0 0 0) s m args below meth c H locs 0 0 (MQ below (fz_Q g (SW g a (v.orderS (insF v.worths t cn v.order))) none A) args s 0 0 A) (F0 m 2 ls []) := by
    intro k
    induction k with
    | zero =>
      intro y o hp hk
      omega
    | succ k ih2 =>
      intro y o hp hk hoo he H locs ls hW hl
      refine lv_iload_n hx hb dX2_insertInOrder_2 rfl (lv_at hl 3 rfl) ?_
      refine lv_if_le (tgt := 48) hx hb dX2_insertInOrder_3 (by decide) (fun c3 => ?_) (fun c3 => ?_)
      · skip
        have h3 : y = 0 := by
          have := (nI_leI (a := y) (b := 0) (by omega) (by omega)).mp c3
          omega
        subst h3
        have hl : lv_has ls 4 [(0, .ref (a 0)), (1, .int (nI t)), (2, .int (nI cn)), (3, .int (nI 0))] := hl
        refine lv_aload_n hx hb dX2_insertInOrder_48 rfl (lv_at hl 0 rfl) ?_
        refine gf_X2_27 X hW 0 rfl rfl dX2_insertInOrder_49 ?_
        refine lv_iload_n hx hb dX2_insertInOrder_52 rfl (lv_at hl 3 rfl) ?_
        refine lv_iload_n hx hb dX2_insertInOrder_53 rfl (lv_at hl 1 rfl) ?_
        refine fz_is X hW 6 (0) rfl rfl (by omega) (by decide) dX2_insertInOrder_54 (fun H locs hW => ?_)
        exact fz_rv X (fz_cast (congrArg (fun z => SW g a (SV.orderS v z)) he.symm) hW) dX2_insertInOrder_55
      · skip
        obtain ⟨q, rfl⟩ : ∃ q, y = q + 1 := ⟨y - 1, by
          have h3 : ¬ y ≤ 0 := fun z => c3 ((nI_leI (a := y) (b := 0) (by omega) (by omega)).mpr z)
          omega⟩
        obtain ⟨u, hu1, hu2⟩ := hoo q (by omega)
        have hl : lv_has ls 4 [(0, .ref (a 0)), (1, .int (nI t)), (2, .int (nI cn)), (3, .int (nI (q + 1)))] := hl
        refine lv_aload_n hx hb dX2_insertInOrder_6 rfl (lv_at hl 0 rfl) ?_
        refine gf_X2_24 X hW 0 rfl rfl dX2_insertInOrder_7 ?_
        refine lv_aload_n hx hb dX2_insertInOrder_10 rfl (lv_at hl 0 rfl) ?_
        refine gf_X2_27 X hW 0 rfl rfl dX2_insertInOrder_11 ?_
        refine lv_iload_n hx hb dX2_insertInOrder_14 rfl (lv_at hl 3 rfl) ?_
        refine lv_iconst (v := 1) hx hb dX2_insertInOrder_15 (by decide) ?_
        refine lv_isub hx hb dX2_insertInOrder_16 ?_
        refine fz_il X hW 6 (q) rfl (by exact pk_sub (a := q + 1) (b := 1) (by omega)) (by omega) (by decide) dX2_insertInOrder_17 ?_
        refine fz_il X hW 5 (u) rfl hu2 hu1 (by decide) dX2_insertInOrder_18 ?_
        refine lv_aload_n hx hb dX2_insertInOrder_19 rfl (lv_at hl 0 rfl) ?_
        refine gf_X2_24 X hW 0 rfl rfl dX2_insertInOrder_20 ?_
        refine lv_iload_n hx hb dX2_insertInOrder_23 rfl (lv_at hl 1 rfl) ?_
        refine fz_il X hW 5 (t) rfl rfl (by omega) (by decide) dX2_insertInOrder_24 ?_
        refine lv_icmp_ge (tgt := 48) hx hb dX2_insertInOrder_25 (by decide) (fun c25 => ?_) (fun c25 => ?_)
        · skip
          have c25 : v.worths t ≤ v.worths u := c25
          refine lv_aload_n hx hb dX2_insertInOrder_48 rfl (lv_at hl 0 rfl) ?_
          refine gf_X2_27 X hW 0 rfl rfl dX2_insertInOrder_49 ?_
          refine lv_iload_n hx hb dX2_insertInOrder_52 rfl (lv_at hl 3 rfl) ?_
          refine lv_iload_n hx hb dX2_insertInOrder_53 rfl (lv_at hl 1 rfl) ?_
          refine fz_is X hW 6 ((q + 1)) rfl rfl (by omega) (by decide) dX2_insertInOrder_54 (fun H locs hW => ?_)
          exact fz_rv X (fz_cast (congrArg (fun z => SW g a (SV.orderS v z)) (show upd o (q + 1) (nI t) = insF v.worths t cn v.order by
            rw [he]
            show _ = (if v.worths (o q).toNatClampNeg < v.worths t then _ else _)
            rw [hu2, nI_clamp (by omega), if_neg (Int32.not_lt.mpr c25)])) hW) dX2_insertInOrder_55
        · skip
          have c25 : ¬ v.worths t ≤ v.worths u := c25
          refine lv_aload_n hx hb dX2_insertInOrder_28 rfl (lv_at hl 0 rfl) ?_
          refine gf_X2_27 X hW 0 rfl rfl dX2_insertInOrder_29 ?_
          refine lv_iload_n hx hb dX2_insertInOrder_32 rfl (lv_at hl 3 rfl) ?_
          refine lv_aload_n hx hb dX2_insertInOrder_33 rfl (lv_at hl 0 rfl) ?_
          refine gf_X2_27 X hW 0 rfl rfl dX2_insertInOrder_34 ?_
          refine lv_iload_n hx hb dX2_insertInOrder_37 rfl (lv_at hl 3 rfl) ?_
          refine lv_iconst (v := 1) hx hb dX2_insertInOrder_38 (by decide) ?_
          refine lv_isub hx hb dX2_insertInOrder_39 ?_
          refine fz_il X hW 6 (q) rfl (by exact pk_sub (a := q + 1) (b := 1) (by omega)) (by omega) (by decide) dX2_insertInOrder_40 ?_
          refine fz_is X hW 6 (q + 1) rfl rfl (by omega) (by decide) dX2_insertInOrder_41 (fun H locs hW => ?_)
          refine lv_iinc (v := nI q) (lv' := [(3, .int (nI q)), (0, .ref (a 0)), (1, .int (nI t)), (2, .int (nI cn))]) hx hb dX2_insertInOrder_42 hl (k := 3) rfl (pk_m1 q) (by decide) rfl (fun ls hl => ?_)
          refine lv_goto (tgt := 2) hx hb dX2_insertInOrder_45 (by decide) ?_
          exact ih2 q (upd o (q + 1) (o q)) (by omega) (by omega) (fun j hj => by rw [pk_un (show j ≠ q + 1 by omega)]; exact hoo j (by omega)) (by
            rw [he]
            show (if v.worths (o q).toNatClampNeg < v.worths t then _ else _) = _
            rw [hu2, nI_clamp (by omega), if_pos (Int32.not_le.mp c25)]) _ _ _ (fz_cast (rfl) hW) (lv_sub hl [1, 2, 3, 0] rfl)
  exact loop2 (cn + 1) cn v.order (Nat.le_refl _) (Nat.lt_succ_self _) ho rfl _ _ _ (fz_cast (rfl) hW) (lv_sub hl [1, 2, 3, 0] rfl)
set_option maxHeartbeats 4000000 in
set_option maxRecDepth 100000 in
theorem c_X2_putInOrder (l : Launch) (g : GG) (a : Nat → Nat) (v : SV) : fz_C l g yX2_putInOrder cX2_putInOrder 3 (some .int) 3 77 [.ref (a 0)] (SW g a v) (SW g a (piV v 48)) (some (.int (nI (piF v 48).1))) := by
  refine fz_C.of (by decide) (Nat.le_of_ble_eq_true rfl) ?_
  intro p e s m args below meth c A ls X hW hl
  have hx := X.1
  have hb := X.2.1
  have hl : lv_has ls 3 [(0, .ref (a 0))] := hl
  have X : fz_X p s m meth c RX2 cX2_putInOrder 3 (some .int) g A := X
  have hW : fz_W g A s (SW g a v) s.heap [] := hW
  refine lv_iconst (v := 0) hx hb dX2_putInOrder_0 (by decide) ?_
  refine lv_istore_n (lv' := [(1, .int 0), (0, .ref (a 0))]) hx hb dX2_putInOrder_1 rfl hl (by decide) rfl (fun ls hl => ?_)
  refine lv_iconst (v := 0) hx hb dX2_putInOrder_2 (by decide) ?_
  refine lv_istore_n (lv' := [(2, .int 0), (1, .int 0), (0, .ref (a 0))]) hx hb dX2_putInOrder_3 rfl hl (by decide) rfl (fun ls hl => ?_)
  have loop4 : ∀ (k : Nat) (t : Nat) (st : Nat × (Nat → Int32) × (Nat → Int32)), t ≤ 48 → 48 < t + k → st = piF v t → ∀ (H : Heap) (locs : List Loc) (ls : Array Slot), fz_W g A s (SW g a (poV v st.2.1 st.2.2)) H locs → lv_has ls 3 [(0, .ref (a 0)), (1, .int (nI st.1)), (2, .int (nI t))] → W p l e (fz_R 3 0 0 77) s m args below meth c H locs 0 0 (MQ below (fz_Q g (SW g a (piV v 48)) (some (.int (nI (piF v 48).1))) A) args s 0 0 A) (F0 m 4 ls []) := by
    intro k
    induction k with
    | zero =>
      intro t st ht hk
      omega
    | succ k ih4 =>
      intro t st ht hk hs H locs ls hW hl
      have hok := piF_ok v t ht
      rw [← hs] at hok
      refine lv_iload_n hx hb dX2_putInOrder_4 rfl (lv_at hl 2 rfl) ?_
      refine lv_bipush (v := 48) hx hb dX2_putInOrder_5 (by decide) ?_
      refine lv_icmp_ge (tgt := 46) hx hb dX2_putInOrder_7 (by decide) (fun c7 => ?_) (fun c7 => ?_)
      · skip
        have h7 : 48 ≤ t := (nI_leI (a := 48) (b := t) (by omega) (by omega)).mp c7
        have e7 : t = 48 := by omega
        have hl := lv_sub hl [0, 1] rfl
        have hl : lv_has ls 3 [(0, .ref (a 0)), (1, .int (nI st.1))] := hl
        refine lv_iload_n hx hb dX2_putInOrder_46 rfl (lv_at hl 1 rfl) ?_
        exact fz_ri X (fz_cast (by rw [hs, e7]; rfl) hW) (by rw [hs, e7]) dX2_putInOrder_47
      · skip
        have h7 : t < 48 := Nat.not_le.mp (fun z => c7 ((nI_leI (a := 48) (b := t) (by omega) (by omega)).mpr z))
        refine lv_aload_n hx hb dX2_putInOrder_10 rfl (lv_at hl 0 rfl) ?_
        refine gf_X2_18 X hW 0 rfl rfl dX2_putInOrder_11 ?_
        refine lv_iload_n hx hb dX2_putInOrder_14 rfl (lv_at hl 2 rfl) ?_
        refine fz_il X hW 3 (t) rfl rfl (by omega) (by decide) dX2_putInOrder_15 ?_
        refine lv_iconst (v := (-1)) hx hb dX2_putInOrder_16 (by decide) ?_
        refine lv_icmp_eq (tgt := 40) hx hb dX2_putInOrder_17 (by decide) (fun c17 => ?_) (fun c17 => ?_)
        · skip
          refine lv_iinc (v := nI (t + 1)) (lv' := [(2, .int (nI (t + 1))), (0, .ref (a 0)), (1, .int (nI st.1))]) hx hb dX2_putInOrder_40 hl (k := 2) rfl (nI_1 _) (by decide) rfl (fun ls hl => ?_)
          refine lv_goto (tgt := 4) hx hb dX2_putInOrder_43 (by decide) ?_
          exact ih4 (t + 1) st (by omega) (by omega) (by rw [hs]; exact (if_pos c17).symm) _ _ _ (fz_cast (rfl) hW) (lv_sub hl [1, 2, 0] rfl)
        · skip
          refine lv_aload_n hx hb dX2_putInOrder_20 rfl (lv_at hl 0 rfl) ?_
          refine gf_X2_24 X hW 0 rfl rfl dX2_putInOrder_21 ?_
          refine lv_iload_n hx hb dX2_putInOrder_24 rfl (lv_at hl 2 rfl) ?_
          refine lv_aload_n hx hb dX2_putInOrder_25 rfl (lv_at hl 0 rfl) ?_
          refine lv_iload_n hx hb dX2_putInOrder_26 rfl (lv_at hl 2 rfl) ?_
          refine fz_cVi X hW (c_X2_worthOf l g a (poV v st.2.1 st.2.2) t (by omega)) lk_X2_132 (ci := 2) (q0 := 0) rfl rfl rfl rfl ⟨Nat.le_of_ble_eq_true rfl, Nat.le_of_ble_eq_true rfl⟩ hl rfl (Nat.le_of_ble_eq_true rfl) dX2_putInOrder_27 ⟨Nat.le_refl _, Nat.le_refl _⟩ (fun H locs hW => ?_)
          refine fz_is X hW 5 (t) rfl rfl (by omega) (by decide) dX2_putInOrder_30 (fun H locs hW => ?_)
          refine lv_aload_n hx hb dX2_putInOrder_31 rfl (lv_at hl 0 rfl) ?_
          refine lv_iload_n hx hb dX2_putInOrder_32 rfl (lv_at hl 2 rfl) ?_
          refine lv_iload_n hx hb dX2_putInOrder_33 rfl (lv_at hl 1 rfl) ?_
          refine fz_cVv X hW (c_X2_insertInOrder l g a (poV v (upd st.2.1 t (woI v t)) st.2.2) t st.1 (by omega) (by omega) (fun j hj => hok.2 j hj)) lk_X2_135 (ci := 2) (q0 := 0) rfl rfl rfl rfl ⟨Nat.le_of_ble_eq_true rfl, Nat.le_of_ble_eq_true rfl⟩ hl rfl (Nat.le_of_ble_eq_true rfl) dX2_putInOrder_34 ⟨Nat.le_refl _, Nat.le_refl _⟩ (fun H locs hW => ?_)
          refine lv_iinc (v := nI (st.1 + 1)) (lv' := [(1, .int (nI (st.1 + 1))), (0, .ref (a 0)), (2, .int (nI t))]) hx hb dX2_putInOrder_37 hl (k := 1) rfl (nI_1 _) (by decide) rfl (fun ls hl => ?_)
          refine lv_iinc (v := nI (t + 1)) (lv' := [(2, .int (nI (t + 1))), (1, .int (nI (st.1 + 1))), (0, .ref (a 0))]) hx hb dX2_putInOrder_40 hl (k := 2) rfl (nI_1 _) (by decide) rfl (fun ls hl => ?_)
          refine lv_goto (tgt := 4) hx hb dX2_putInOrder_43 (by decide) ?_
          exact ih4 (t + 1) (st.1 + 1, upd st.2.1 t (woI v t), insF (upd st.2.1 t (woI v t)) t st.1 st.2.2) (by omega) (by omega) (by rw [hs]; exact (if_neg c17).symm) _ _ _ (fz_cast (rfl) hW) (lv_sub hl [2, 1, 0] rfl)
  exact loop4 49 0 (0, v.worths, v.order) (by omega) (by omega) rfl _ _ _ (fz_cast (rfl) hW) (lv_sub hl [2, 1, 0] rfl)
end
section
set_option maxHeartbeats 4000000 in
set_option maxRecDepth 100000 in
theorem c_X2_sendPicture (l : Launch) (g : GG) (a : Nat → Nat) (v : SV) (t w : Nat) (x left : Int32) (ht : t < 48) (hw : w < 4) (hkc : v.kc ≤ 8) : fz_C l g yX2_sendPicture cX2_sendPicture 5 (some .int) 2 45 [.ref (a 0), .int (nI t), .int (nI w), .int x, .int left] (SW g a v) (SW g a (spR v t w x left).2) (some (.int (spR v t w x left).1)) := by
  refine fz_C.of (by decide) (Nat.le_of_ble_eq_true rfl) ?_
  intro p e s m args below meth c A ls X hW hl
  have hx := X.1
  have hb := X.2.1
  have hl : lv_has ls 5 [(0, .ref (a 0)), (1, .int (nI t)), (2, .int (nI w)), (3, .int x), (4, .int left)] := hl
  have X : fz_X p s m meth c RX2 cX2_sendPicture 5 (some .int) g A := X
  have hW : fz_W g A s (SW g a v) s.heap [] := hW
  refine lv_iload_n hx hb dX2_sendPicture_0 rfl (lv_at hl 3 rfl) ?_
  refine lv_iload hx hb dX2_sendPicture_1 (lv_at hl 4 rfl) ?_
  refine lv_icmp_le (tgt := 8) hx hb dX2_sendPicture_3 (by decide) (fun c3 => ?_) (fun c3 => ?_)
  · skip
    have h3 : ¬ left < x := Int32.not_lt.mpr c3
    refine lv_aload_n hx hb dX2_sendPicture_8 rfl (lv_at hl 0 rfl) ?_
    refine gf_X2_15 X hW 0 rfl rfl dX2_sendPicture_9 ?_
    refine lv_iload_n hx hb dX2_sendPicture_12 rfl (lv_at hl 1 rfl) ?_
    refine lv_aload_n hx hb dX2_sendPicture_13 rfl (lv_at hl 0 rfl) ?_
    refine gf_X2_9 X hW 0 rfl rfl dX2_sendPicture_14 ?_
    refine lv_iload_n hx hb dX2_sendPicture_17 rfl (lv_at hl 1 rfl) ?_
    refine fz_il X hW 1 (t) rfl rfl (by omega) (by decide) dX2_sendPicture_18 ?_
    refine fz_is X hW 2 (t) rfl rfl (by omega) (by decide) dX2_sendPicture_19 (fun H locs hW => ?_)
    refine lv_aload_n hx hb dX2_sendPicture_20 rfl (lv_at hl 0 rfl) ?_
    refine gf_X2_18 X hW 0 rfl rfl dX2_sendPicture_21 ?_
    refine lv_iload_n hx hb dX2_sendPicture_24 rfl (lv_at hl 1 rfl) ?_
    refine lv_iconst (v := (-1)) hx hb dX2_sendPicture_25 (by decide) ?_
    refine fz_is X hW 3 (t) rfl rfl (by omega) (by decide) dX2_sendPicture_26 (fun H locs hW => ?_)
    have hW : fz_W g A s (SW g a (SV.mk9 v.near (upd v.far t (v.near t)) (upd v.since t (-1)) v.ch v.worths v.order v.before v.mv v.wm v.kp v.kc v.sc v.us v.now v.la)) H locs := hW
    refine lv_aload_n hx hb dX2_sendPicture_27 rfl (lv_at hl 0 rfl) ?_
    refine gf_X2_46 X hW 0 rfl rfl dX2_sendPicture_28 ?_
    refine lv_aload_n hx hb dX2_sendPicture_31 rfl (lv_at hl 0 rfl) ?_
    refine gf_X2_9 X hW 0 rfl rfl dX2_sendPicture_32 ?_
    refine lv_iload_n hx hb dX2_sendPicture_35 rfl (lv_at hl 1 rfl) ?_
    refine fz_il X hW 1 (t) rfl rfl (by omega) (by decide) dX2_sendPicture_36 ?_
    refine fz_cVv X hW (cs_meet l g a (SV.mk9 v.near (upd v.far t (v.near t)) (upd v.since t (-1)) v.ch v.worths v.order v.before v.mv v.wm v.kp v.kc v.sc v.us v.now v.la) (v.near t) hkc) lk_X2_161 (ci := 1) (q0 := 9) rfl rfl rfl rfl ⟨Nat.le_of_ble_eq_true rfl, Nat.le_of_ble_eq_true rfl⟩ hl rfl (Nat.le_of_ble_eq_true rfl) dX2_sendPicture_37 ⟨Nat.le_refl _, Nat.le_refl _⟩ (fun H locs hW => ?_)
    have hW : fz_W g A s (SW g a (SV.mk9 v.near (upd v.far t (v.near t)) (upd v.since t (-1)) v.ch v.worths v.order v.before v.mv v.wm (mtP v.kp v.kc (v.near t)) (mtC v.kp v.kc (v.near t)) v.sc v.us v.now v.la)) H locs := hW
    refine lv_aload_n hx hb dX2_sendPicture_40 rfl (lv_at hl 0 rfl) ?_
    refine gf_X2_50 X hW 0 rfl rfl dX2_sendPicture_41 ?_
    refine lv_iload_n hx hb dX2_sendPicture_44 rfl (lv_at hl 2 rfl) ?_
    refine lv_dup2_11 hx hb dX2_sendPicture_45 rfl rfl ?_
    refine fz_il X hW 11 (w) rfl rfl (by omega) (by decide) dX2_sendPicture_46 ?_
    refine lv_iconst (v := 1) hx hb dX2_sendPicture_47 (by decide) ?_
    refine lv_iadd hx hb dX2_sendPicture_48 ?_
    refine fz_is X hW 11 (w) rfl rfl (by omega) (by decide) dX2_sendPicture_49 (fun H locs hW => ?_)
    refine lv_iload_n hx hb dX2_sendPicture_50 rfl (lv_at hl 3 rfl) ?_
    exact fz_ri X (fz_cast (by unfold spR; rw [if_neg h3]; rfl) hW) (by unfold spR; rw [if_neg h3]) dX2_sendPicture_51
  · skip
    have h3 : left < x := Int32.not_le.mp c3
    refine lv_iconst (v := 0) hx hb dX2_sendPicture_6 (by decide) ?_
    exact fz_ri X (fz_cast (by unfold spR; rw [if_pos h3]) hW) (by unfold spR; rw [if_pos h3]) dX2_sendPicture_7
set_option maxHeartbeats 4000000 in
set_option maxRecDepth 100000 in
theorem c_X2_sendRoughly (l : Launch) (g : GG) (a : Nat → Nat) (v : SV) (t : Nat) (left : Int32) (ht : t < 48) : fz_C l g yX2_sendRoughly cX2_sendRoughly 4 (some .int) 0 0 [.ref (a 0), .int (nI t), .int left] (SW g a v) (SW g a (srR v t left).2) (some (.int (srR v t left).1)) := by
  refine fz_C.of (by decide) (Nat.le_of_ble_eq_true rfl) ?_
  intro p e s m args below meth c A ls X hW hl
  have hx := X.1
  have hb := X.2.1
  have hl : lv_has ls 4 [(0, .ref (a 0)), (1, .int (nI t)), (2, .int left)] := hl
  have X : fz_X p s m meth c RX2 cX2_sendRoughly 4 (some .int) g A := X
  have hW : fz_W g A s (SW g a v) s.heap [] := hW
  refine lv_sipush (v := 1000) hx hb dX2_sendRoughly_0 (by decide) ?_
  refine lv_aload_n hx hb dX2_sendRoughly_3 rfl (lv_at hl 0 rfl) ?_
  refine gf_X2_9 X hW 0 rfl rfl dX2_sendRoughly_4 ?_
  refine lv_iload_n hx hb dX2_sendRoughly_7 rfl (lv_at hl 1 rfl) ?_
  refine fz_il X hW 1 (t) rfl rfl (by omega) (by decide) dX2_sendRoughly_8 ?_
  refine lv_bipush (v := 16) hx hb dX2_sendRoughly_9 (by decide) ?_
  refine lv_idiv hx hb dX2_sendRoughly_11 (by decide) ?_
  refine lv_iadd hx hb dX2_sendRoughly_12 ?_
  refine lv_istore_n (lv' := [(3, .int _), (0, .ref (a 0)), (1, .int (nI t)), (2, .int left)]) hx hb dX2_sendRoughly_13 rfl hl (by decide) rfl (fun ls hl => ?_)
  refine lv_iconst (v := 2) hx hb dX2_sendRoughly_14 (by decide) ?_
  refine lv_iload_n hx hb dX2_sendRoughly_15 rfl (lv_at hl 3 rfl) ?_
  refine lv_icmp_gt (tgt := 29) hx hb dX2_sendRoughly_16 (by decide) (fun c16 => ?_) (fun c16 => ?_)
  · skip
    refine lv_iconst (v := 0) hx hb dX2_sendRoughly_29 (by decide) ?_
    exact fz_ri X (fz_cast (by unfold srR; rw [if_pos c16]) hW) (by unfold srR; rw [if_pos c16]) dX2_sendRoughly_30
  · skip
    refine lv_aload_n hx hb dX2_sendRoughly_19 rfl (lv_at hl 1 rfl) ?_
    refine gf_X2_15 X hW 0 rfl rfl dX2_sendRoughly_20 ?_
    refine lv_iload_n hx hb dX2_sendRoughly_23 rfl (lv_at hl 2 rfl) ?_
    refine fz_il X hW 2 (t) rfl rfl (by omega) (by decide) dX2_sendRoughly_24 ?_
    refine lv_iload_n hx hb dX2_sendRoughly_25 rfl (lv_at hl 0 rfl) ?_
    refine lv_icmp_ne (tgt := 31) hx hb dX2_sendRoughly_26 (by decide) (fun c26 => ?_) (fun c26 => ?_)
    · skip
      have h26 : ¬ v.far t = roI v t := c26
      refine lv_aload_n hx hb dX2_sendRoughly_31 rfl (lv_at hl 1 rfl) ?_
      refine gf_X2_15 X hW 0 rfl rfl dX2_sendRoughly_32 ?_
      refine lv_iload_n hx hb dX2_sendRoughly_35 rfl (lv_at hl 2 rfl) ?_
      refine lv_iload_n hx hb dX2_sendRoughly_36 rfl (lv_at hl 0 rfl) ?_
      refine fz_is X hW 2 (t) rfl rfl (by omega) (by decide) dX2_sendRoughly_37 (fun H locs hW => ?_)
      refine lv_aload_n hx hb dX2_sendRoughly_38 rfl (lv_at hl 1 rfl) ?_
      refine gf_X2_50 X hW 0 rfl rfl dX2_sendRoughly_39 ?_
      refine lv_iconst (v := 2) hx hb dX2_sendRoughly_42 (by decide) ?_
      refine lv_dup2_11 hx hb dX2_sendRoughly_43 rfl rfl ?_
      refine fz_il X hW 11 (2) rfl rfl (by omega) (by decide) dX2_sendRoughly_44 ?_
      refine lv_iconst (v := 1) hx hb dX2_sendRoughly_45 (by decide) ?_
      refine lv_iadd hx hb dX2_sendRoughly_46 ?_
      refine fz_is X hW 11 (2) rfl rfl (by omega) (by decide) dX2_sendRoughly_47 (fun H locs hW => ?_)
      refine lv_iconst (v := 2) hx hb dX2_sendRoughly_48 (by decide) ?_
      exact fz_ri X (fz_cast (by unfold srR; rw [if_neg c16, if_neg h26]; rfl) hW) (by unfold srR; rw [if_neg c16, if_neg h26]) dX2_sendRoughly_49
    · skip
      have h26 : v.far t = roI v t := c26
      refine lv_iconst (v := 0) hx hb dX2_sendRoughly_29 (by decide) ?_
      exact fz_ri X (fz_cast (by unfold srR; rw [if_neg c16, if_pos h26]) hW) (by unfold srR; rw [if_neg c16, if_pos h26]) dX2_sendRoughly_30
set_option maxHeartbeats 4000000 in
set_option maxRecDepth 100000 in
theorem c_X2_sendTile (l : Launch) (g : GG) (a : Nat → Nat) (v : SV) (t : Nat) (left : Int32) (ht : t < 48) (hkc : v.kc ≤ 8) : fz_C l g yX2_sendTile cX2_sendTile 4 (some .int) 3 69 [.ref (a 0), .int (nI t), .int left] (SW g a v) (SW g a (stR v t left).2) (some (.int (stR v t left).1)) := by
  refine fz_C.of (by decide) (Nat.le_of_ble_eq_true rfl) ?_
  intro p e s m args below meth c A ls X hW hl
  have hx := X.1
  have hb := X.2.1
  have hl : lv_has ls 4 [(0, .ref (a 0)), (1, .int (nI t)), (2, .int left)] := hl
  have X : fz_X p s m meth c RX2 cX2_sendTile 4 (some .int) g A := X
  have hW : fz_W g A s (SW g a v) s.heap [] := hW
  refine lv_aload_n hx hb dX2_sendTile_0 rfl (lv_at hl 0 rfl) ?_
  refine gf_X2_9 X hW 0 rfl rfl dX2_sendTile_1 ?_
  refine lv_iload_n hx hb dX2_sendTile_4 rfl (lv_at hl 1 rfl) ?_
  refine fz_il X hW 1 (t) rfl rfl (by omega) (by decide) dX2_sendTile_5 ?_
  refine lv_istore_n (lv' := [(3, .int _), (0, .ref (a 0)), (1, .int (nI t)), (2, .int left)]) hx hb dX2_sendTile_6 rfl hl (by decide) rfl (fun ls hl => ?_)
  refine lv_aload_n hx hb dX2_sendTile_7 rfl (lv_at hl 1 rfl) ?_
  refine gf_X2_46 X hW 0 rfl rfl dX2_sendTile_8 ?_
  refine lv_iload_n hx hb dX2_sendTile_11 rfl (lv_at hl 0 rfl) ?_
  refine fz_cVi X hW (cs_holds l g a v (v.near t) hkc) lk_X2_148 (ci := 1) (q0 := 9) rfl rfl rfl rfl ⟨Nat.le_of_ble_eq_true rfl, Nat.le_of_ble_eq_true rfl⟩ hl rfl (Nat.le_of_ble_eq_true rfl) dX2_sendTile_12 ⟨Nat.le_refl _, Nat.le_refl _⟩ (fun H locs hW => ?_)
  refine lv_if_eq (tgt := 27) hx hb dX2_sendTile_15 (by decide) (fun c15 => ?_) (fun c15 => ?_)
  · skip
    have h15 : plcF v.kp (v.near t) 0 v.kc = -1 := by
      rcases Classical.em (plcF v.kp (v.near t) 0 v.kc = -1) with h | h
      · exact h
      · rw [if_neg h] at c15
        exact absurd c15 (by decide)
    refine lv_aload_n hx hb dX2_sendTile_27 rfl (lv_at hl 1 rfl) ?_
    refine lv_iload_n hx hb dX2_sendTile_28 rfl (lv_at hl 2 rfl) ?_
    refine fz_cVi X hW (c_X2_kindOf l g a v t ht) lk_X2_100 (ci := 2) (q0 := 0) rfl rfl rfl rfl ⟨Nat.le_of_ble_eq_true rfl, Nat.le_of_ble_eq_true rfl⟩ hl rfl (Nat.le_of_ble_eq_true rfl) dX2_sendTile_29 ⟨Nat.le_refl _, Nat.le_refl _⟩ (fun H locs hW => ?_)
    refine lv_iconst (v := 2) hx hb dX2_sendTile_32 (by decide) ?_
    refine lv_icmp_ne (tgt := 43) hx hb dX2_sendTile_33 (by decide) (fun c33 => ?_) (fun c33 => ?_)
    · skip
      refine lv_aload_n hx hb dX2_sendTile_43 rfl (lv_at hl 1 rfl) ?_
      refine lv_iload_n hx hb dX2_sendTile_44 rfl (lv_at hl 2 rfl) ?_
      refine lv_iconst (v := 3) hx hb dX2_sendTile_45 (by decide) ?_
      refine lv_iload_n hx hb dX2_sendTile_46 rfl (lv_at hl 0 rfl) ?_
      refine fz_cNi X hW (c_X3_wholeCost l g (v.near t) _) lk_X2_158 rfl ⟨Nat.le_of_ble_eq_true rfl, Nat.le_of_ble_eq_true rfl⟩ hl rfl (Nat.le_of_ble_eq_true rfl) dX2_sendTile_47 ⟨Nat.le_refl _, Nat.le_refl _⟩ (fun H locs hW => ?_)
      refine lv_iload_n hx hb dX2_sendTile_50 rfl (lv_at hl 3 rfl) ?_
      refine fz_cVi X hW (c_X2_sendPicture l g a v t 3 (wcI (v.near t)) left ht (by decide) hkc) lk_X2_151 (ci := 2) (q0 := 0) rfl rfl rfl rfl ⟨Nat.le_of_ble_eq_true rfl, Nat.le_of_ble_eq_true rfl⟩ hl rfl (Nat.le_of_ble_eq_true rfl) dX2_sendTile_51 ⟨Nat.le_refl _, Nat.le_refl _⟩ (fun H locs hW => ?_)
      exact fz_ri X (fz_cast (by unfold stR; rw [if_pos h15, if_neg c33]) hW) (by unfold stR; rw [if_pos h15, if_neg c33]) dX2_sendTile_54
    · skip
      refine lv_aload_n hx hb dX2_sendTile_36 rfl (lv_at hl 1 rfl) ?_
      refine lv_iload_n hx hb dX2_sendTile_37 rfl (lv_at hl 2 rfl) ?_
      refine lv_iload_n hx hb dX2_sendTile_38 rfl (lv_at hl 3 rfl) ?_
      refine fz_cVi X hW (c_X2_sendRoughly l g a v t left ht) lk_X2_155 (ci := 2) (q0 := 0) rfl rfl rfl rfl ⟨Nat.le_of_ble_eq_true rfl, Nat.le_of_ble_eq_true rfl⟩ hl rfl (Nat.le_of_ble_eq_true rfl) dX2_sendTile_39 ⟨Nat.le_refl _, Nat.le_refl _⟩ (fun H locs hW => ?_)
      exact fz_ri X (fz_cast (by unfold stR; rw [if_pos h15, if_pos c33]) hW) (by unfold stR; rw [if_pos h15, if_pos c33]) dX2_sendTile_42
  · skip
    have h15 : ¬ plcF v.kp (v.near t) 0 v.kc = -1 := fun h => c15 (if_pos h)
    refine lv_aload_n hx hb dX2_sendTile_18 rfl (lv_at hl 1 rfl) ?_
    refine lv_iload_n hx hb dX2_sendTile_19 rfl (lv_at hl 2 rfl) ?_
    refine lv_iconst (v := 1) hx hb dX2_sendTile_20 (by decide) ?_
    refine lv_iconst (v := 1) hx hb dX2_sendTile_21 (by decide) ?_
    refine lv_iload_n hx hb dX2_sendTile_22 rfl (lv_at hl 3 rfl) ?_
    refine fz_cVi X hW (c_X2_sendPicture l g a v t 1 1 left ht (by decide) hkc) lk_X2_151 (ci := 2) (q0 := 0) rfl rfl rfl rfl ⟨Nat.le_of_ble_eq_true rfl, Nat.le_of_ble_eq_true rfl⟩ hl rfl (Nat.le_of_ble_eq_true rfl) dX2_sendTile_23 ⟨Nat.le_refl _, Nat.le_refl _⟩ (fun H locs hW => ?_)
    exact fz_ri X (fz_cast (by unfold stR; rw [if_neg h15]) hW) (by unfold stR; rw [if_neg h15]) dX2_sendTile_26
theorem c_X2_sendTileX (l : Launch) (g : GG) (a : Nat → Nat) (v : SV) (x : Int32) (t : Nat) (left : Int32) (hx : x = nI t) (ht : t < 48) (hkc : v.kc ≤ 8) : fz_C l g yX2_sendTile cX2_sendTile 4 (some .int) 3 69 [.ref (a 0), .int x, .int left] (SW g a v) (SW g a (stR v x.toNatClampNeg left).2) (some (.int (stR v x.toNatClampNeg left).1)) := by
  subst hx
  rw [nI_clamp (by omega)]
  exact c_X2_sendTile l g a v t left ht hkc
set_option maxHeartbeats 4000000 in
set_option maxRecDepth 100000 in
theorem c_X2_sendTiles (l : Launch) (g : GG) (a : Nat → Nat) (v : SV) (b : Int32) (hkc : v.kc ≤ 8) : fz_C l g yX2_sendTiles cX2_sendTiles 5 (some .int) 4 99 [.ref (a 0), .int b] (SW g a v) (SW g a (saR v b).2) (some (.int (saR v b).1)) := by
  refine fz_C.of (by decide) (Nat.le_of_ble_eq_true rfl) ?_
  intro p e s m args below meth c A ls X hW hl
  have hx := X.1
  have hb := X.2.1
  have hl : lv_has ls 5 [(0, .ref (a 0)), (1, .int b)] := hl
  have X : fz_X p s m meth c RX2 cX2_sendTiles 5 (some .int) g A := X
  have hW : fz_W g A s (SW g a v) s.heap [] := hW
  have hp := piF_ok v 48 (Nat.le_refl _)
  have hk := saF_keep (piV v 48) b hkc
  refine lv_aload_n hx hb dX2_sendTiles_0 rfl (lv_at hl 0 rfl) ?_
  refine fz_cVi X hW (c_X2_putInOrder l g a v) lk_X2_125 (ci := 2) (q0 := 0) rfl rfl rfl rfl ⟨Nat.le_of_ble_eq_true rfl, Nat.le_of_ble_eq_true rfl⟩ hl rfl (Nat.le_of_ble_eq_true rfl) dX2_sendTiles_1 ⟨Nat.le_refl _, Nat.le_refl _⟩ (fun H locs hW => ?_)
  refine lv_istore_n (lv' := [(2, .int (nI (piF v 48).1)), (0, .ref (a 0)), (1, .int b)]) hx hb dX2_sendTiles_4 rfl hl (by decide) rfl (fun ls hl => ?_)
  refine lv_iload_n hx hb dX2_sendTiles_5 rfl (lv_at hl 2 rfl) ?_
  refine lv_istore_n (lv' := [(3, .int b), (2, .int (nI (piF v 48).1)), (0, .ref (a 0)), (1, .int b)]) hx hb dX2_sendTiles_6 rfl hl (by decide) rfl (fun ls hl => ?_)
  refine lv_iconst (v := 0) hx hb dX2_sendTiles_7 (by decide) ?_
  refine lv_istore (lv' := [(4, .int 0), (3, .int b), (2, .int (nI (piF v 48).1)), (0, .ref (a 0)), (1, .int b)]) hx hb dX2_sendTiles_8 hl (by decide) rfl (fun ls hl => ?_)
  have loop10 : ∀ (k : Nat) (y : Nat) (st : Int32 × SV), y ≤ (piF v 48).1 → (piF v 48).1 < y + k → st = saF (piV v 48) b y → ∀ (H : Heap) (locs : List Loc) (ls : Array Slot), fz_W g A s (SW g a st.2) H locs → lv_has ls 5 [(0, .ref (a 0)), (1, .int b), (2, .int (nI (piF v 48).1)), (3, .int st.1), (4, .int (nI y))] → W p l e (fz_R 4 0 0 99) s m args below meth c H locs 0 0 (MQ below (fz_Q g (SW g a (saR v b).2) (some (.int (saR v b).1)) A) args s 0 0 A) (F0 m 10 ls []) := by
    intro k
    induction k with
    | zero =>
      intro y st hp hk
      omega
    | succ k ih10 =>
      intro y st hp1 hp2 hs H locs ls hW hl
      obtain ⟨ko, kk⟩ := hk y
      rw [← hs] at ko kk
      refine lv_iload hx hb dX2_sendTiles_10 (lv_at hl 4 rfl) ?_
      refine lv_iload_n hx hb dX2_sendTiles_12 rfl (lv_at hl 2 rfl) ?_
      refine lv_icmp_ge (tgt := 37) hx hb dX2_sendTiles_13 (by decide) (fun c13 => ?_) (fun c13 => ?_)
      · skip
        have h13 : (piF v 48).1 ≤ y := (nI_leI (a := (piF v 48).1) (b := y) (by omega) (by omega)).mp c13
        have e13 : y = (piF v 48).1 := by omega
        have hl := lv_sub hl [0, 1, 2, 3] rfl
        have hl : lv_has ls 5 [(0, .ref (a 0)), (1, .int b), (2, .int (nI (piF v 48).1)), (3, .int st.1)] := hl
        refine lv_iload_n hx hb dX2_sendTiles_37 rfl (lv_at hl 1 rfl) ?_
        refine lv_iload_n hx hb dX2_sendTiles_38 rfl (lv_at hl 3 rfl) ?_
        refine lv_isub hx hb dX2_sendTiles_39 ?_
        exact fz_ri X (fz_cast (by rw [hs, e13]; rfl) hW) (by rw [hs, e13]; rfl) dX2_sendTiles_40
      · skip
        have h13 : y < (piF v 48).1 := Nat.not_le.mp (fun z => c13 ((nI_leI (a := (piF v 48).1) (b := y) (by omega) (by omega)).mpr z))
        obtain ⟨u, hu1, hu2⟩ := hp.2 y h13
        have hu3 : st.2.order y = nI u := by rw [ko]; exact hu2
        refine lv_iload_n hx hb dX2_sendTiles_16 rfl (lv_at hl 3 rfl) ?_
        refine lv_aload_n hx hb dX2_sendTiles_17 rfl (lv_at hl 0 rfl) ?_
        refine lv_aload_n hx hb dX2_sendTiles_18 rfl (lv_at hl 0 rfl) ?_
        refine gf_X2_27 X hW 0 rfl rfl dX2_sendTiles_19 ?_
        refine lv_iload hx hb dX2_sendTiles_22 (lv_at hl 4 rfl) ?_
        refine fz_il X hW 6 (y) rfl rfl (by omega) (by decide) dX2_sendTiles_24 ?_
        refine lv_iload_n hx hb dX2_sendTiles_25 rfl (lv_at hl 3 rfl) ?_
        refine fz_cVi X hW (c_X2_sendTileX l g a st.2 (st.2.order y) u st.1 hu3 hu1 kk) lk_X2_129 (ci := 2) (q0 := 0) rfl rfl rfl rfl ⟨Nat.le_of_ble_eq_true rfl, Nat.le_of_ble_eq_true rfl⟩ hl rfl (Nat.le_of_ble_eq_true rfl) dX2_sendTiles_26 ⟨Nat.le_refl _, Nat.le_refl _⟩ (fun H locs hW => ?_)
        refine lv_isub hx hb dX2_sendTiles_29 ?_
        refine lv_istore_n (lv' := [(3, .int (st.1 - ((stR st.2 (st.2.order y).toNatClampNeg st.1).1))), (0, .ref (a 0)), (1, .int b), (2, .int (nI (piF v 48).1)), (4, .int (nI y))]) hx hb dX2_sendTiles_30 rfl hl (by decide) rfl (fun ls hl => ?_)
        refine lv_iinc (v := nI (y + 1)) (lv' := [(4, .int (nI (y + 1))), (3, .int (st.1 - ((stR st.2 (st.2.order y).toNatClampNeg st.1).1))), (0, .ref (a 0)), (1, .int b), (2, .int (nI (piF v 48).1))]) hx hb dX2_sendTiles_31 hl (k := 4) rfl (nI_1 _) (by decide) rfl (fun ls hl => ?_)
        refine lv_goto (tgt := 10) hx hb dX2_sendTiles_34 (by decide) ?_
        exact ih10 (y + 1) (st.1 - (stR st.2 (st.2.order y).toNatClampNeg st.1).1, (stR st.2 (st.2.order y).toNatClampNeg st.1).2) (by omega) (by omega) (by rw [hs]; rfl) _ _ _ (fz_cast (rfl) hW) (lv_sub hl [2, 3, 4, 1, 0] rfl)
  exact loop10 ((piF v 48).1 + 1) 0 (b, piV v 48) (by omega) (by omega) rfl _ _ _ (fz_cast (rfl) hW) (lv_sub hl [3, 4, 2, 1, 0] rfl)
end
section
theorem fz_top {p : Program} {l : Launch} {e : Env} {R : Room} {s : State} {m : MethodId} {args : Array Value} {below : List Frame} {meth : Method} {c : Code} {H : Heap} {locs : List Loc} {cells slots : Nat} {Q : State → Prop} {pc : Nat} {ls : Array Slot} {rest : List Value} {x x' : Int32} (h : x = x') (k : W p l e R s m args below meth c H locs cells slots Q (F0 m pc ls (.int x' :: rest))) : W p l e R s m args below meth c H locs cells slots Q (F0 m pc ls (.int x :: rest)) := h ▸ k
set_option maxRecDepth 100000 in
theorem SW_bm (g : GG) (a : Nat → Nat) (v : SV) (j : Nat) (hj : j < 5) : (SW g a v)[12 + j]? = some (a (12 + j), BM (v.mv j)) := by
  rcases (show j = 0 ∨ j = 1 ∨ j = 2 ∨ j = 3 ∨ j = 4 by omega) with rfl | rfl | rfl | rfl | rfl <;> rfl
set_option maxRecDepth 100000 in
theorem SW_bm2 (g : GG) (a b : Nat → Nat) (v u : SV) (j : Nat) (hj : j < 5) : (SW g a v ++ SW g b u)[12 + j]? = some (a (12 + j), BM (v.mv j)) := by
  rcases (show j = 0 ∨ j = 1 ∨ j = 2 ∨ j = 3 ∨ j = 4 by omega) with rfl | rfl | rfl | rfl | rfl <;> rfl
def cmF (u v : Nat → Nat → Nat) (i : Nat) : Nat → Nat → Nat := fun j => if j < i then u j else v j
theorem cmF_0 (u v : Nat → Nat → Nat) : cmF u v 0 = v := by
  funext j
  simp [cmF]
theorem cmF_s (u v : Nat → Nat → Nat) (i : Nat) : mvU (cmF u v i) i (u i) = cmF u v (i + 1) := by
  funext j
  by_cases h : j = i
  · subst h
    simp [mvU, cmF]
  · by_cases h2 : j < i
    · have h3 : j < i + 1 := by omega
      simp [mvU, cmF, h, h2, h3]
    · have h3 : ¬ j < i + 1 := by omega
      simp [mvU, cmF, h, h2, h3]
theorem mvU_i (f : Nat → Nat → Nat) (i : Nat) (h : Nat → Nat) : mvU f i h i = h := by simp [mvU]
def c1V (v u : SV) (m : Nat → Nat → Nat) : SV := (SV.mk9 (fz_to u.near v.near 48) (fz_to u.far v.far 48) (fz_to u.since v.since 48) (fz_to u.ch v.ch 48) v.worths v.order v.before (m) (u.wm) v.kp v.kc v.sc v.us v.now v.la)
set_option maxHeartbeats 4000000 in
set_option maxRecDepth 100000 in
theorem c_X2_forgetMoves (l : Launch) (g : GG) (a : Nat → Nat) (v : SV) (n : Nat) (hn : n ≤ v.wm) (hwm : v.wm ≤ 4) : fz_C l g yX2_forgetMoves cX2_forgetMoves 3 none 2 47 [.ref (a 0), .int (nI n)] (SW g a v) (SW g a (fmV v n)) none := by
  refine fz_C.of (by decide) (Nat.le_of_ble_eq_true rfl) ?_
  intro p e s m args below meth c A ls X hW hl
  have hx := X.1
  have hb := X.2.1
  have hl : lv_has ls 3 [(0, .ref (a 0)), (1, .int (nI n))] := hl
  have X : fz_X p s m meth c RX2 cX2_forgetMoves 3 none g A := X
  have hW : fz_W g A s (SW g a v) s.heap [] := hW
  refine lv_iload_n hx hb dX2_forgetMoves_0 rfl (lv_at hl 1 rfl) ?_
  refine lv_istore_n (lv' := [(2, .int (nI n)), (0, .ref (a 0)), (1, .int (nI n))]) hx hb dX2_forgetMoves_1 rfl hl (by decide) rfl (fun ls hl => ?_)
  have loop2 : ∀ (k : Nat) (i : Nat), n + i ≤ v.wm → v.wm < n + i + k → ∀ (H : Heap) (locs : List Loc) (ls : Array Slot), fz_W g A s (SW g a (v.mvS (fmF v.mv n i))) H locs → lv_has ls 3 [(0, .ref (a 0)), (1, .int (nI n)), (2, .int (nI (n + i)))] → W p l e (fz_R 2 0 0 47) s m args below meth c H locs 0 0 (MQ below (fz_Q g (SW g a (fmV v n)) none A) args s 0 0 A) (F0 m 2 ls []) := by
    intro k
    induction k with
    | zero =>
      intro i hi hk
      omega
    | succ k ih2 =>
      intro i hi hk H locs ls hW hl
      refine lv_iload_n hx hb dX2_forgetMoves_2 rfl (lv_at hl 2 rfl) ?_
      refine lv_aload_n hx hb dX2_forgetMoves_3 rfl (lv_at hl 0 rfl) ?_
      refine gf_X2_39 X hW 0 rfl rfl dX2_forgetMoves_4 ?_
      refine lv_icmp_ge (tgt := 33) hx hb dX2_forgetMoves_7 (by decide) (fun c7 => ?_) (fun c7 => ?_)
      · skip
        have h7 : v.wm ≤ (n + i) := (nI_leI (a := v.wm) (b := (n + i)) (by omega) (by omega)).mp c7
        refine lv_aload_n hx hb dX2_forgetMoves_33 rfl (lv_at hl 0 rfl) ?_
        refine lv_dup hx hb dX2_forgetMoves_34 rfl ?_
        refine gf_X2_39 X hW 0 rfl rfl dX2_forgetMoves_35 ?_
        refine lv_iload_n hx hb dX2_forgetMoves_38 rfl (lv_at hl 1 rfl) ?_
        refine lv_isub hx hb dX2_forgetMoves_39 ?_
        refine fz_top (x' := nI (v.wm - n)) (show nI v.wm - nI n = _ from pk_sub (by omega)) ?_
        refine pf_X2_39 X hW 0 rfl (Nat.le_of_ble_eq_true rfl) dX2_forgetMoves_40 (fun H locs hW => ?_)
        exact fz_rv X (fz_cast (by unfold fmV; rw [show v.wm - n = i by omega]; rfl) hW) dX2_forgetMoves_43
      · skip
        have h7 : (n + i) < v.wm := Nat.not_le.mp (fun z => c7 ((nI_leI (a := v.wm) (b := (n + i)) (by omega) (by omega)).mpr z))
        refine lv_aload_n hx hb dX2_forgetMoves_10 rfl (lv_at hl 0 rfl) ?_
        refine gf_X2_35 X hW 0 rfl rfl dX2_forgetMoves_11 ?_
        refine lv_iload_n hx hb dX2_forgetMoves_14 rfl (lv_at hl 2 rfl) ?_
        refine lv_iload_n hx hb dX2_forgetMoves_15 rfl (lv_at hl 1 rfl) ?_
        refine lv_isub hx hb dX2_forgetMoves_16 ?_
        refine fz_ql X hW 8 (i) rfl (by rw [pk_sub (by omega), Nat.add_sub_cancel_left]) (by omega) (by decide) (if_pos (by omega)) dX2_forgetMoves_17 ?_
        refine lv_aload_n hx hb dX2_forgetMoves_18 rfl (lv_at hl 0 rfl) ?_
        refine gf_X2_35 X hW 0 rfl rfl dX2_forgetMoves_19 ?_
        refine lv_iload_n hx hb dX2_forgetMoves_22 rfl (lv_at hl 2 rfl) ?_
        refine fz_ql X hW 8 (n + i) rfl rfl (by omega) (by decide) (if_pos (by omega)) dX2_forgetMoves_23 ?_
        refine fz_cVv X hW (cs_copy l g a (v.mvS (fmF v.mv n i)) i (n + i) (by omega) (by omega)) lk_X2_69 (ci := 0) (q0 := 12 + i) rfl rfl (SW_bm _ _ _ _ (by omega)) rfl ⟨Nat.le_of_ble_eq_true rfl, Nat.le_of_ble_eq_true rfl⟩ hl rfl (Nat.le_of_ble_eq_true rfl) dX2_forgetMoves_24 ⟨Nat.le_refl _, Nat.le_refl _⟩ (fun H locs hW => ?_)
        refine lv_iinc (v := nI ((n + i) + 1)) (lv' := [(2, .int (nI ((n + i) + 1))), (0, .ref (a 0)), (1, .int (nI n))]) hx hb dX2_forgetMoves_27 hl (k := 2) rfl (nI_1 _) (by decide) rfl (fun ls hl => ?_)
        refine lv_goto (tgt := 2) hx hb dX2_forgetMoves_30 (by decide) ?_
        exact ih2 (i + 1) (by omega) (by omega) _ _ _ (fz_cast (rfl) hW) (lv_sub hl [1, 2, 0] rfl)
  exact loop2 (v.wm + 1) 0 (by omega) (by omega) _ _ _ (fz_cast (rfl) hW) (lv_sub hl [1, 2, 0] rfl)
set_option maxHeartbeats 4000000 in
set_option maxRecDepth 100000 in
theorem c_X2_tellMoves (l : Launch) (g : GG) (a : Nat → Nat) (v : SV) (b : Int32) (hwm : v.wm ≤ 4) (hm : ∀ j, j < v.wm → MOK (v.mv j)) : fz_C l g yX2_tellMoves cX2_tellMoves 3 (some .int) 3 69 [.ref (a 0), .int b] (SW g a v) (SW g a (tlV v b)) (some (.int (nI (tlF b v 0 v.wm).1 * 2))) := by
  refine fz_C.of (by decide) (Nat.le_of_ble_eq_true rfl) ?_
  intro p e s m args below meth c A ls X hW hl
  have hx := X.1
  have hb := X.2.1
  have hl : lv_has ls 3 [(0, .ref (a 0)), (1, .int b)] := hl
  have X : fz_X p s m meth c RX2 cX2_tellMoves 3 (some .int) g A := X
  have hW : fz_W g A s (SW g a v) s.heap [] := hW
  refine lv_iconst (v := 0) hx hb dX2_tellMoves_0 (by decide) ?_
  refine lv_istore_n (lv' := [(2, .int 0), (0, .ref (a 0)), (1, .int b)]) hx hb dX2_tellMoves_1 rfl hl (by decide) rfl (fun ls hl => ?_)
  have loop2 : ∀ (k : Nat) (n : Nat) (u : SV), n ≤ v.wm → v.wm < n + k → tlF b v 0 v.wm = tlF b u n (v.wm - n) → u.mv = v.mv → u.wm = v.wm → ∀ (H : Heap) (locs : List Loc) (ls : Array Slot), fz_W g A s (SW g a u) H locs → lv_has ls 3 [(0, .ref (a 0)), (1, .int b), (2, .int (nI n))] → W p l e (fz_R 3 0 0 69) s m args below meth c H locs 0 0 (MQ below (fz_Q g (SW g a (tlV v b)) (some (.int (nI (tlF b v 0 v.wm).1 * 2))) A) args s 0 0 A) (F0 m 2 ls []) := by
    intro k
    induction k with
    | zero =>
      intro n u hn hk
      omega
    | succ k ih2 =>
      intro n u hn hk he hu1 hu2 H locs ls hW hl
      refine lv_iload_n hx hb dX2_tellMoves_2 rfl (lv_at hl 2 rfl) ?_
      refine lv_aload_n hx hb dX2_tellMoves_3 rfl (lv_at hl 0 rfl) ?_
      refine gf_X2_39 X hW 0 rfl rfl dX2_tellMoves_4 ?_
      refine lv_icmp_ge (tgt := 46) hx hb dX2_tellMoves_7 (by decide) (fun c7 => ?_) (fun c7 => ?_)
      · skip
        have h7 : u.wm ≤ n := (nI_leI (a := u.wm) (b := n) (by omega) (by omega)).mp c7
        have hf : tlF b v 0 v.wm = (n, u) := by rw [he, show v.wm - n = 0 by omega]; rfl
        refine lv_aload_n hx hb dX2_tellMoves_46 rfl (lv_at hl 0 rfl) ?_
        refine lv_iload_n hx hb dX2_tellMoves_47 rfl (lv_at hl 2 rfl) ?_
        refine fz_cVv X hW (c_X2_forgetMoves l g a u n (by omega) (by omega)) lk_X2_121 (ci := 2) (q0 := 0) rfl rfl rfl rfl ⟨Nat.le_of_ble_eq_true rfl, Nat.le_of_ble_eq_true rfl⟩ hl rfl (Nat.le_of_ble_eq_true rfl) dX2_tellMoves_48 ⟨Nat.le_refl _, Nat.le_refl _⟩ (fun H locs hW => ?_)
        refine lv_aload_n hx hb dX2_tellMoves_51 rfl (lv_at hl 0 rfl) ?_
        refine gf_X2_50 X hW 0 rfl rfl dX2_tellMoves_52 ?_
        refine lv_iconst (v := 0) hx hb dX2_tellMoves_55 (by decide) ?_
        refine lv_dup2_11 hx hb dX2_tellMoves_56 rfl rfl ?_
        refine fz_il X hW 11 (0) rfl rfl (by omega) (by decide) dX2_tellMoves_57 ?_
        refine lv_iload_n hx hb dX2_tellMoves_58 rfl (lv_at hl 2 rfl) ?_
        refine lv_iadd hx hb dX2_tellMoves_59 ?_
        refine fz_is X hW 11 (0) rfl rfl (by omega) (by decide) dX2_tellMoves_60 (fun H locs hW => ?_)
        refine lv_iload_n hx hb dX2_tellMoves_61 rfl (lv_at hl 2 rfl) ?_
        refine lv_iconst (v := 2) hx hb dX2_tellMoves_62 (by decide) ?_
        refine lv_imul hx hb dX2_tellMoves_63 ?_
        exact fz_ri X (fz_cast (by unfold tlV; rw [hf]; rfl) hW) (by rw [hf]) dX2_tellMoves_64
      · skip
        have h7 : n < u.wm := Nat.not_le.mp (fun z => c7 ((nI_leI (a := u.wm) (b := n) (by omega) (by omega)).mpr z))
        refine lv_iload_n hx hb dX2_tellMoves_10 rfl (lv_at hl 1 rfl) ?_
        refine lv_iload_n hx hb dX2_tellMoves_11 rfl (lv_at hl 2 rfl) ?_
        refine lv_iconst (v := 2) hx hb dX2_tellMoves_12 (by decide) ?_
        refine lv_imul hx hb dX2_tellMoves_13 ?_
        refine lv_isub hx hb dX2_tellMoves_14 ?_
        refine lv_iconst (v := 2) hx hb dX2_tellMoves_15 (by decide) ?_
        refine lv_icmp_lt (tgt := 46) hx hb dX2_tellMoves_16 (by decide) (fun c16 => ?_) (fun c16 => ?_)
        · skip
          have hf : tlF b v 0 v.wm = (n, u) := by rw [he, show v.wm - n = (v.wm - (n + 1)) + 1 by omega]; exact if_pos c16
          refine lv_aload_n hx hb dX2_tellMoves_46 rfl (lv_at hl 0 rfl) ?_
          refine lv_iload_n hx hb dX2_tellMoves_47 rfl (lv_at hl 2 rfl) ?_
          refine fz_cVv X hW (c_X2_forgetMoves l g a u n (by omega) (by omega)) lk_X2_121 (ci := 2) (q0 := 0) rfl rfl rfl rfl ⟨Nat.le_of_ble_eq_true rfl, Nat.le_of_ble_eq_true rfl⟩ hl rfl (Nat.le_of_ble_eq_true rfl) dX2_tellMoves_48 ⟨Nat.le_refl _, Nat.le_refl _⟩ (fun H locs hW => ?_)
          refine lv_aload_n hx hb dX2_tellMoves_51 rfl (lv_at hl 0 rfl) ?_
          refine gf_X2_50 X hW 0 rfl rfl dX2_tellMoves_52 ?_
          refine lv_iconst (v := 0) hx hb dX2_tellMoves_55 (by decide) ?_
          refine lv_dup2_11 hx hb dX2_tellMoves_56 rfl rfl ?_
          refine fz_il X hW 11 (0) rfl rfl (by omega) (by decide) dX2_tellMoves_57 ?_
          refine lv_iload_n hx hb dX2_tellMoves_58 rfl (lv_at hl 2 rfl) ?_
          refine lv_iadd hx hb dX2_tellMoves_59 ?_
          refine fz_is X hW 11 (0) rfl rfl (by omega) (by decide) dX2_tellMoves_60 (fun H locs hW => ?_)
          refine lv_iload_n hx hb dX2_tellMoves_61 rfl (lv_at hl 2 rfl) ?_
          refine lv_iconst (v := 2) hx hb dX2_tellMoves_62 (by decide) ?_
          refine lv_imul hx hb dX2_tellMoves_63 ?_
          exact fz_ri X (fz_cast (by unfold tlV; rw [hf]; rfl) hW) (by rw [hf]) dX2_tellMoves_64
        · skip
          refine lv_aload_n hx hb dX2_tellMoves_19 rfl (lv_at hl 0 rfl) ?_
          refine gf_X2_35 X hW 0 rfl rfl dX2_tellMoves_20 ?_
          refine lv_iload_n hx hb dX2_tellMoves_23 rfl (lv_at hl 2 rfl) ?_
          refine fz_ql X hW 8 (n) rfl rfl (by omega) (by decide) (if_pos (by omega)) dX2_tellMoves_24 ?_
          refine lv_aload_n hx hb dX2_tellMoves_25 rfl (lv_at hl 0 rfl) ?_
          refine gf_X2_15 X hW 0 rfl rfl dX2_tellMoves_26 ?_
          refine lv_aload_n hx hb dX2_tellMoves_29 rfl (lv_at hl 0 rfl) ?_
          refine gf_X2_30 X hW 0 rfl rfl dX2_tellMoves_30 ?_
          refine fz_cVv X hW (cs_apFar l g a u n (by omega) (by rw [hu1]; exact hm n (by omega))) lk_X2_90 (ci := 0) (q0 := 12 + n) rfl rfl (SW_bm _ _ _ _ (by omega)) rfl ⟨Nat.le_of_ble_eq_true rfl, Nat.le_of_ble_eq_true rfl⟩ hl rfl (Nat.le_of_ble_eq_true rfl) dX2_tellMoves_33 ⟨Nat.le_refl _, Nat.le_refl _⟩ (fun H locs hW => ?_)
          refine lv_aload_n hx hb dX2_tellMoves_36 rfl (lv_at hl 0 rfl) ?_
          refine fz_cVv X hW (c_X2_noteUnlike l g a (afV u n)) lk_X2_83 (ci := 2) (q0 := 0) rfl rfl rfl rfl ⟨Nat.le_of_ble_eq_true rfl, Nat.le_of_ble_eq_true rfl⟩ hl rfl (Nat.le_of_ble_eq_true rfl) dX2_tellMoves_37 ⟨Nat.le_refl _, Nat.le_refl _⟩ (fun H locs hW => ?_)
          refine lv_iinc (v := nI (n + 1)) (lv' := [(2, .int (nI (n + 1))), (0, .ref (a 0)), (1, .int b)]) hx hb dX2_tellMoves_40 hl (k := 2) rfl (nI_1 _) (by decide) rfl (fun ls hl => ?_)
          refine lv_goto (tgt := 2) hx hb dX2_tellMoves_43 (by decide) ?_
          exact ih2 (n + 1) (nuV (afV u n)) (by omega) (by omega) (by rw [he, show v.wm - n = (v.wm - (n + 1)) + 1 by omega]; exact if_neg c16) hu1 hu2 _ _ _ (fz_cast (rfl) hW) (lv_sub hl [1, 2, 0] rfl)
  exact loop2 (v.wm + 1) 0 v (by omega) (by omega) rfl rfl rfl _ _ _ (fz_cast (rfl) hW) (lv_sub hl [1, 2, 0] rfl)
theorem tlV_keep (v : SV) (b : Int32) (hwm : v.wm ≤ 4) (hkc : v.kc ≤ 8) : (tlV v b).wm ≤ 4 ∧ (tlV v b).kc ≤ 8 := by
  obtain ⟨h1, h2, h3, h4, h5⟩ := tlF_keep b v.wm v 0
  refine ⟨?_, ?_⟩
  · show (tlF b v 0 v.wm).2.wm - (tlF b v 0 v.wm).1 ≤ 4
    omega
  · show (tlF b v 0 v.wm).2.kc ≤ 8
    omega
set_option maxHeartbeats 4000000 in
set_option maxRecDepth 100000 in
theorem c_X2_passStep (l : Launch) (g : GG) (a : Nat → Nat) (v : SV) (b : Int32) (hwm : v.wm ≤ 4) (hkc : v.kc ≤ 8) (hm : ∀ j, j < v.wm → MOK (v.mv j)) : fz_C l g yX2_passStep cX2_passStep 3 (some .int) 5 123 [.ref (a 0), .int b] (SW g a v) (SW g a (psV v b)) (some (.int (psA v b).1)) := by
  refine fz_C.of (by decide) (Nat.le_of_ble_eq_true rfl) ?_
  intro p e s m args below meth c A ls X hW hl
  have hx := X.1
  have hb := X.2.1
  have hl : lv_has ls 3 [(0, .ref (a 0)), (1, .int b)] := hl
  have X : fz_X p s m meth c RX2 cX2_passStep 3 (some .int) g A := X
  have hW : fz_W g A s (SW g a v) s.heap [] := hW
  obtain ⟨kw, kk⟩ := tlV_keep v b hwm hkc
  refine lv_aload_n hx hb dX2_passStep_0 rfl (lv_at hl 0 rfl) ?_
  refine lv_iload_n hx hb dX2_passStep_1 rfl (lv_at hl 1 rfl) ?_
  refine fz_cVi X hW (c_X2_tellMoves l g a v b hwm hm) lk_X2_112 (ci := 2) (q0 := 0) rfl rfl rfl rfl ⟨Nat.le_of_ble_eq_true rfl, Nat.le_of_ble_eq_true rfl⟩ hl rfl (Nat.le_of_ble_eq_true rfl) dX2_passStep_2 ⟨Nat.le_refl _, Nat.le_refl _⟩ (fun H locs hW => ?_)
  refine lv_istore_n (lv' := [(2, .int (nI (tlF b v 0 v.wm).1 * 2)), (0, .ref (a 0)), (1, .int b)]) hx hb dX2_passStep_5 rfl hl (by decide) rfl (fun ls hl => ?_)
  have join23 : ∀ (r : Int32 × SV), r = psA v b → ∀ (H : Heap) (locs : List Loc) (ls : Array Slot), fz_W g A s (SW g a r.2) H locs → lv_has ls 3 [(0, .ref (a 0)), (1, .int b), (2, .int r.1)] → W p l e (fz_R 5 0 0 123) s m args below meth c H locs 0 0 (MQ below (fz_Q g (SW g a (psV v b)) (some (.int (psA v b).1)) A) args s 0 0 A) (F0 m 23 ls []) := by
    intro r hr H locs ls hW hl
    refine lv_aload_n hx hb dX2_passStep_23 rfl (lv_at hl 0 rfl) ?_
    refine lv_dup hx hb dX2_passStep_24 rfl ?_
    refine gf_X2_53 X hW 0 rfl rfl dX2_passStep_25 ?_
    refine lv_iload_n hx hb dX2_passStep_28 rfl (lv_at hl 2 rfl) ?_
    refine lv_iadd hx hb dX2_passStep_29 ?_
    refine pf_X2_53 X hW 0 rfl (Nat.le_of_ble_eq_true rfl) dX2_passStep_30 (fun H locs hW => ?_)
    refine lv_aload_n hx hb dX2_passStep_33 rfl (lv_at hl 0 rfl) ?_
    refine lv_dup hx hb dX2_passStep_34 rfl ?_
    refine gf_X2_56 X hW 0 rfl rfl dX2_passStep_35 ?_
    refine lv_iconst (v := 1) hx hb dX2_passStep_38 (by decide) ?_
    refine lv_iadd hx hb dX2_passStep_39 ?_
    refine pf_X2_56 X hW 0 rfl (Nat.le_of_ble_eq_true rfl) dX2_passStep_40 (fun H locs hW => ?_)
    refine lv_aload_n hx hb dX2_passStep_43 rfl (lv_at hl 0 rfl) ?_
    refine fz_cVv X hW (c_X2_settleChanges l g a (unV r.2 r.1)) lk_X2_118 (ci := 2) (q0 := 0) rfl rfl rfl rfl ⟨Nat.le_of_ble_eq_true rfl, Nat.le_of_ble_eq_true rfl⟩ hl rfl (Nat.le_of_ble_eq_true rfl) dX2_passStep_44 ⟨Nat.le_refl _, Nat.le_refl _⟩ (fun H locs hW => ?_)
    refine lv_iload_n hx hb dX2_passStep_47 rfl (lv_at hl 2 rfl) ?_
    exact fz_ri X (fz_cast (by rw [hr]; rfl) hW) (by rw [hr]) dX2_passStep_48
  refine lv_aload_n hx hb dX2_passStep_6 rfl (lv_at hl 1 rfl) ?_
  refine gf_X2_39 X hW 0 rfl rfl dX2_passStep_7 ?_
  refine lv_if_ne (tgt := 23) hx hb dX2_passStep_10 (by decide) (fun c10 => ?_) (fun c10 => ?_)
  · skip
    have h10 : ¬ (tlV v b).wm = 0 := fun z => c10 (by rw [z]; rfl)
    exact join23 (tlR v b) (if_neg h10).symm _ _ _ (fz_cast (rfl) hW) (lv_sub hl [1, 2, 0] rfl)
  · skip
    have h10 : (tlV v b).wm = 0 := (nI_eq (a := (tlV v b).wm) (b := 0) (by omega) (by omega)).mp c10
    refine lv_iload_n hx hb dX2_passStep_13 rfl (lv_at hl 0 rfl) ?_
    refine lv_aload_n hx hb dX2_passStep_14 rfl (lv_at hl 1 rfl) ?_
    refine lv_iload_n hx hb dX2_passStep_15 rfl (lv_at hl 2 rfl) ?_
    refine lv_iload_n hx hb dX2_passStep_16 rfl (lv_at hl 0 rfl) ?_
    refine lv_isub hx hb dX2_passStep_17 ?_
    refine fz_cVi X hW (c_X2_sendTiles l g a (tlV v b) _ kk) lk_X2_115 (ci := 2) (q0 := 0) rfl rfl rfl rfl ⟨Nat.le_of_ble_eq_true rfl, Nat.le_of_ble_eq_true rfl⟩ hl rfl (Nat.le_of_ble_eq_true rfl) dX2_passStep_18 ⟨Nat.le_refl _, Nat.le_refl _⟩ (fun H locs hW => ?_)
    refine lv_iadd hx hb dX2_passStep_21 ?_
    refine lv_istore_n (lv' := [(2, .int ((nI (tlF b v 0 v.wm).1 * 2) + ((saR (tlV v b) (b - nI (tlF b v 0 v.wm).1 * 2)).1))), (0, .ref (a 0)), (1, .int b)]) hx hb dX2_passStep_22 rfl hl (by decide) rfl (fun ls hl => ?_)
    exact join23 ((tlR v b).1 + (saR (tlR v b).2 (b - (tlR v b).1)).1, (saR (tlR v b).2 (b - (tlR v b).1)).2) (if_pos h10).symm _ _ _ (fz_cast (rfl) hW) (lv_sub hl [1, 2, 0] rfl)
end
section
set_option maxHeartbeats 4000000 in
set_option maxRecDepth 100000 in
theorem c_X2_paint (l : Launch) (g : GG) (a : Nat → Nat) (v : SV) (x y wd hg : Nat) (pic : Int32) (h1 : x + wd ≤ 8) (h2 : y + hg ≤ 6) : fz_C l g yX2_paint cX2_paint 8 none 1 32 [.ref (a 0), .int (nI x), .int (nI y), .int (nI wd), .int (nI hg), .int pic] (SW g a v) (SW g a (paV v x y wd hg pic)) none := by
  refine fz_C.of (by decide) (Nat.le_of_ble_eq_true rfl) ?_
  intro p e s m args below meth c A ls X hW hl
  have hx := X.1
  have hb := X.2.1
  have hl : lv_has ls 8 [(0, .ref (a 0)), (1, .int (nI x)), (2, .int (nI y)), (3, .int (nI wd)), (4, .int (nI hg)), (5, .int pic)] := hl
  have X : fz_X p s m meth c RX2 cX2_paint 8 none g A := X
  have hW : fz_W g A s (SW g a v) s.heap [] := hW
  refine lv_aload_n hx hb dX2_paint_0 rfl (lv_at hl 0 rfl) ?_
  refine gf_X2_9 X hW 0 rfl rfl dX2_paint_1 ?_
  refine lv_iconst (v := 0) hx hb dX2_paint_4 (by decide) ?_
  refine lv_aload_n hx hb dX2_paint_5 rfl (lv_at hl 0 rfl) ?_
  refine gf_X2_30 X hW 0 rfl rfl dX2_paint_6 ?_
  refine lv_iconst (v := 0) hx hb dX2_paint_9 (by decide) ?_
  refine lv_bipush (v := 48) hx hb dX2_paint_10 (by decide) ?_
  refine fz_ac_X2 X hW hl 1 7 rfl rfl 48 (by decide) (by decide) (by decide) rfl (Nat.le_of_ble_eq_true rfl) (Nat.le_of_ble_eq_true rfl) dX2_paint_12 (fun H locs hW => ?_)
  refine lv_iload_n hx hb dX2_paint_15 rfl (lv_at hl 2 rfl) ?_
  refine lv_istore (lv' := [(6, .int (nI y)), (0, .ref (a 0)), (1, .int (nI x)), (2, .int (nI y)), (3, .int (nI wd)), (4, .int (nI hg)), (5, .int pic)]) hx hb dX2_paint_16 hl (by decide) rfl (fun ls hl => ?_)
  have loop18 : ∀ (k : Nat) (i : Nat), i ≤ hg → hg < i + k → ∀ (H : Heap) (locs : List Loc) (ls : Array Slot), fz_W g A s (SW g a (nbV v (paR pic x y wd v.near i) (fz_to v.near v.before 48))) H locs → lv_has ls 8 [(0, .ref (a 0)), (1, .int (nI x)), (2, .int (nI y)), (3, .int (nI wd)), (4, .int (nI hg)), (5, .int pic), (6, .int (nI (y + i)))] → W p l e (fz_R 1 0 0 32) s m args below meth c H locs 0 0 (MQ below (fz_Q g (SW g a (paV v x y wd hg pic)) none A) args s 0 0 A) (F0 m 18 ls []) := by
    intro k
    induction k with
    | zero =>
      intro i hi hk
      omega
    | succ k ih18 =>
      intro i hi hk H locs ls hW hl
      refine lv_iload hx hb dX2_paint_18 (lv_at hl 6 rfl) ?_
      refine lv_iload_n hx hb dX2_paint_20 rfl (lv_at hl 2 rfl) ?_
      refine lv_iload hx hb dX2_paint_21 (lv_at hl 4 rfl) ?_
      refine lv_iadd hx hb dX2_paint_23 ?_
      refine lv_icmp_ge (tgt := 64) hx hb dX2_paint_24 (by decide) (fun c24 => ?_) (fun c24 => ?_)
      · skip
        rw [nI_add] at c24
        have h24 : y + hg ≤ (y + i) := (nI_leI (a := y + hg) (b := (y + i)) (by omega) (by omega)).mp c24
        have e24 : i = hg := by omega
        have hl := lv_sub hl [0, 1, 2, 3, 4, 5] rfl
        have hl : lv_has ls 8 [(0, .ref (a 0)), (1, .int (nI x)), (2, .int (nI y)), (3, .int (nI wd)), (4, .int (nI hg)), (5, .int pic)] := hl
        refine lv_aload_n hx hb dX2_paint_64 rfl (lv_at hl 0 rfl) ?_
        refine fz_cVv X hW (c_X2_noteChanges l g a (nbV v (paR pic x y wd v.near i) (fz_to v.near v.before 48))) lk_X2_80 (ci := 2) (q0 := 0) rfl rfl rfl rfl ⟨Nat.le_of_ble_eq_true rfl, Nat.le_of_ble_eq_true rfl⟩ hl rfl (Nat.le_of_ble_eq_true rfl) dX2_paint_65 ⟨Nat.le_refl _, Nat.le_refl _⟩ (fun H locs hW => ?_)
        refine lv_aload_n hx hb dX2_paint_68 rfl (lv_at hl 0 rfl) ?_
        refine fz_cVv X hW (c_X2_noteUnlike l g a (ncV (nbV v (paR pic x y wd v.near i) (fz_to v.near v.before 48)))) lk_X2_83 (ci := 2) (q0 := 0) rfl rfl rfl rfl ⟨Nat.le_of_ble_eq_true rfl, Nat.le_of_ble_eq_true rfl⟩ hl rfl (Nat.le_of_ble_eq_true rfl) dX2_paint_69 ⟨Nat.le_refl _, Nat.le_refl _⟩ (fun H locs hW => ?_)
        exact fz_rv X (fz_cast (by rw [e24]; rfl) hW) dX2_paint_72
      · skip
        rw [nI_add] at c24
        have h24 : (y + i) < y + hg := Nat.not_le.mp (fun z => c24 ((nI_leI (a := y + hg) (b := (y + i)) (by omega) (by omega)).mpr z))
        refine lv_iload_n hx hb dX2_paint_27 rfl (lv_at hl 1 rfl) ?_
        refine lv_istore (lv' := [(7, .int (nI x)), (0, .ref (a 0)), (1, .int (nI x)), (2, .int (nI y)), (3, .int (nI wd)), (4, .int (nI hg)), (5, .int pic), (6, .int (nI (y + i)))]) hx hb dX2_paint_28 hl (by decide) rfl (fun ls hl => ?_)
        have loop30 : ∀ (k : Nat) (j : Nat), j ≤ wd → wd < j + k → ∀ (H : Heap) (locs : List Loc) (ls : Array Slot), fz_W g A s (SW g a (nbV v (paC pic x (y + i) (paR pic x y wd v.near i) j) (fz_to v.near v.before 48))) H locs → lv_has ls 8 [(0, .ref (a 0)), (1, .int (nI x)), (2, .int (nI y)), (3, .int (nI wd)), (4, .int (nI hg)), (5, .int pic), (6, .int (nI (y + i))), (7, .int (nI (x + j)))] → W p l e (fz_R 1 0 0 32) s m args below meth c H locs 0 0 (MQ below (fz_Q g (SW g a (paV v x y wd hg pic)) none A) args s 0 0 A) (F0 m 30 ls []) := by
          intro k
          induction k with
          | zero =>
            intro j hj hk
            omega
          | succ k ih30 =>
            intro j hj hkj H locs ls hW hl
            refine lv_iload hx hb dX2_paint_30 (lv_at hl 7 rfl) ?_
            refine lv_iload_n hx hb dX2_paint_32 rfl (lv_at hl 1 rfl) ?_
            refine lv_iload_n hx hb dX2_paint_33 rfl (lv_at hl 3 rfl) ?_
            refine lv_iadd hx hb dX2_paint_34 ?_
            refine lv_icmp_ge (tgt := 58) hx hb dX2_paint_35 (by decide) (fun c35 => ?_) (fun c35 => ?_)
            · skip
              rw [nI_add] at c35
              have h35 : x + wd ≤ (x + j) := (nI_leI (a := x + wd) (b := (x + j)) (by omega) (by omega)).mp c35
              have e35 : j = wd := by omega
              have hl := lv_sub hl [0, 1, 2, 3, 4, 5, 6] rfl
              have hl : lv_has ls 8 [(0, .ref (a 0)), (1, .int (nI x)), (2, .int (nI y)), (3, .int (nI wd)), (4, .int (nI hg)), (5, .int pic), (6, .int (nI (y + i)))] := hl
              refine lv_iinc (v := nI ((y + i) + 1)) (lv' := [(6, .int (nI ((y + i) + 1))), (0, .ref (a 0)), (1, .int (nI x)), (2, .int (nI y)), (3, .int (nI wd)), (4, .int (nI hg)), (5, .int pic)]) hx hb dX2_paint_58 hl (k := 6) rfl (nI_1 _) (by decide) rfl (fun ls hl => ?_)
              refine lv_goto (tgt := 18) hx hb dX2_paint_61 (by decide) ?_
              exact ih18 (i + 1) (by omega) (by omega) _ _ _ (fz_cast (by rw [e35]; rfl) hW) (lv_sub hl [1, 2, 3, 4, 5, 6, 0] rfl)
            · skip
              rw [nI_add] at c35
              have h35 : (x + j) < x + wd := Nat.not_le.mp (fun z => c35 ((nI_leI (a := x + wd) (b := (x + j)) (by omega) (by omega)).mpr z))
              refine lv_aload_n hx hb dX2_paint_38 rfl (lv_at hl 0 rfl) ?_
              refine gf_X2_9 X hW 0 rfl rfl dX2_paint_39 ?_
              refine lv_iload hx hb dX2_paint_42 (lv_at hl 7 rfl) ?_
              refine lv_iload hx hb dX2_paint_44 (lv_at hl 6 rfl) ?_
              refine fz_cNi X hW (c_X3_tileAt l g _ _ _) lk_X2_76 rfl ⟨Nat.le_of_ble_eq_true rfl, Nat.le_of_ble_eq_true rfl⟩ hl rfl (Nat.le_of_ble_eq_true rfl) dX2_paint_46 ⟨Nat.le_refl _, Nat.le_refl _⟩ (fun H locs hW => ?_)
              refine lv_iload hx hb dX2_paint_49 (lv_at hl 5 rfl) ?_
              refine fz_is X hW 1 (8 * (y + i) + (x + j)) rfl (fz_tl _ _) (by omega) (by decide) dX2_paint_51 (fun H locs hW => ?_)
              refine lv_iinc (v := nI ((x + j) + 1)) (lv' := [(7, .int (nI ((x + j) + 1))), (0, .ref (a 0)), (1, .int (nI x)), (2, .int (nI y)), (3, .int (nI wd)), (4, .int (nI hg)), (5, .int pic), (6, .int (nI (y + i)))]) hx hb dX2_paint_52 hl (k := 7) rfl (nI_1 _) (by decide) rfl (fun ls hl => ?_)
              refine lv_goto (tgt := 30) hx hb dX2_paint_55 (by decide) ?_
              exact ih30 (j + 1) (by omega) (by omega) _ _ _ (fz_cast (rfl) hW) (lv_sub hl [1, 2, 3, 4, 5, 6, 7, 0] rfl)
        exact loop30 (wd + 1) 0 (by omega) (by omega) _ _ _ (fz_cast (rfl) hW) (lv_sub hl [1, 2, 3, 4, 5, 6, 7, 0] rfl)
  exact loop18 (hg + 1) 0 (by omega) (by omega) _ _ _ (fz_cast (rfl) hW) (lv_sub hl [1, 2, 3, 4, 5, 6, 0] rfl)
set_option maxHeartbeats 4000000 in
set_option maxRecDepth 100000 in
theorem c_X2_shift (l : Launch) (g : GG) (a : Nat → Nat) (v : SV) (h : Nat → Nat) (hm : MOK h) (hwm : v.wm ≤ 4) : fz_C l g yX2_shift cX2_shift 8 none 2 56 [.ref (a 0), .int (nI (h 0)), .int (nI (h 1)), .int (nI (h 2)), .int (nI (h 3)), .int (nI (h 4)), .int (nI (h 5))] (SW g a v) (SW g a (shV v h)) none := by
  refine fz_C.of (by decide) (Nat.le_of_ble_eq_true rfl) ?_
  intro p e s m args below meth c A ls X hW hl
  have hx := X.1
  have hb := X.2.1
  have hl : lv_has ls 8 [(0, .ref (a 0)), (1, .int (nI (h 0))), (2, .int (nI (h 1))), (3, .int (nI (h 2))), (4, .int (nI (h 3))), (5, .int (nI (h 4))), (6, .int (nI (h 5)))] := hl
  have X : fz_X p s m meth c RX2 cX2_shift 8 none g A := X
  have hW : fz_W g A s (SW g a v) s.heap [] := hW
  refine lv_aload_n hx hb dX2_shift_0 rfl (lv_at hl 0 rfl) ?_
  refine gf_X2_35 X hW 0 rfl rfl dX2_shift_1 ?_
  refine lv_aload_n hx hb dX2_shift_4 rfl (lv_at hl 0 rfl) ?_
  refine gf_X2_39 X hW 0 rfl rfl dX2_shift_5 ?_
  refine fz_ql X hW 8 (v.wm) rfl rfl (by omega) (by decide) (if_pos (by omega)) dX2_shift_8 ?_
  refine lv_astore (lv' := [(7, .ref (a (12 + v.wm))), (0, .ref (a 0)), (1, .int (nI (h 0))), (2, .int (nI (h 1))), (3, .int (nI (h 2))), (4, .int (nI (h 3))), (5, .int (nI (h 4))), (6, .int (nI (h 5)))]) hx hb dX2_shift_9 hl (by decide) rfl (fun ls hl => ?_)
  refine lv_aload hx hb dX2_shift_11 (lv_at hl 0 rfl) ?_
  refine lv_iload_n hx hb dX2_shift_13 rfl (lv_at hl 2 rfl) ?_
  refine lv_iload_n hx hb dX2_shift_14 rfl (lv_at hl 3 rfl) ?_
  refine lv_iload_n hx hb dX2_shift_15 rfl (lv_at hl 4 rfl) ?_
  refine lv_iload hx hb dX2_shift_16 (lv_at hl 5 rfl) ?_
  refine lv_iload hx hb dX2_shift_18 (lv_at hl 6 rfl) ?_
  refine lv_iload hx hb dX2_shift_20 (lv_at hl 7 rfl) ?_
  refine fz_cVv X hW (cs_set l g a v v.wm (by omega) h) lk_X2_86 (ci := 0) (q0 := 12 + v.wm) rfl rfl (SW_bm _ _ _ _ (by omega)) rfl ⟨Nat.le_of_ble_eq_true rfl, Nat.le_of_ble_eq_true rfl⟩ hl rfl (Nat.le_of_ble_eq_true rfl) dX2_shift_22 ⟨Nat.le_refl _, Nat.le_refl _⟩ (fun H locs hW => ?_)
  refine lv_aload hx hb dX2_shift_25 (lv_at hl 0 rfl) ?_
  refine lv_aload_n hx hb dX2_shift_27 rfl (lv_at hl 1 rfl) ?_
  refine gf_X2_9 X hW 0 rfl rfl dX2_shift_28 ?_
  refine lv_aload_n hx hb dX2_shift_31 rfl (lv_at hl 1 rfl) ?_
  refine gf_X2_30 X hW 0 rfl rfl dX2_shift_32 ?_
  refine fz_cVv X hW (cs_apNear l g a (v.mvS (mvU v.mv v.wm h)) v.wm (by omega) (by show MOK (mvU v.mv v.wm h v.wm); rw [mvU_i]; exact hm)) lk_X2_90 (ci := 0) (q0 := 12 + v.wm) rfl rfl (SW_bm _ _ _ _ (by omega)) rfl ⟨Nat.le_of_ble_eq_true rfl, Nat.le_of_ble_eq_true rfl⟩ hl rfl (Nat.le_of_ble_eq_true rfl) dX2_shift_35 ⟨Nat.le_refl _, Nat.le_refl _⟩ (fun H locs hW => ?_)
  have join56 : ∀ (n : Nat), n = (if v.wm < 4 then v.wm + 1 else v.wm) → ∀ (H : Heap) (locs : List Loc) (ls : Array Slot), fz_W g A s (SW g a ((shA v h).wmS n)) H locs → lv_has ls 8 [(0, .ref (a 0))] → W p l e (fz_R 2 0 0 56) s m args below meth c H locs 0 0 (MQ below (fz_Q g (SW g a (shV v h)) none A) args s 0 0 A) (F0 m 56 ls []) := by
    intro n hn H locs ls hW hl
    refine lv_aload_n hx hb dX2_shift_56 rfl (lv_at hl 0 rfl) ?_
    refine fz_cVv X hW (c_X2_noteChanges l g a ((shA v h).wmS n)) lk_X2_80 (ci := 2) (q0 := 0) rfl rfl rfl rfl ⟨Nat.le_of_ble_eq_true rfl, Nat.le_of_ble_eq_true rfl⟩ hl rfl (Nat.le_of_ble_eq_true rfl) dX2_shift_57 ⟨Nat.le_refl _, Nat.le_refl _⟩ (fun H locs hW => ?_)
    refine lv_aload_n hx hb dX2_shift_60 rfl (lv_at hl 0 rfl) ?_
    refine fz_cVv X hW (c_X2_noteUnlike l g a (ncV ((shA v h).wmS n))) lk_X2_83 (ci := 2) (q0 := 0) rfl rfl rfl rfl ⟨Nat.le_of_ble_eq_true rfl, Nat.le_of_ble_eq_true rfl⟩ hl rfl (Nat.le_of_ble_eq_true rfl) dX2_shift_61 ⟨Nat.le_refl _, Nat.le_refl _⟩ (fun H locs hW => ?_)
    exact fz_rv X (fz_cast (by rw [hn]; rfl) hW) dX2_shift_64
  refine lv_aload_n hx hb dX2_shift_38 rfl (lv_at hl 1 rfl) ?_
  refine gf_X2_39 X hW 0 rfl rfl dX2_shift_39 ?_
  refine lv_iconst (v := 4) hx hb dX2_shift_42 (by decide) ?_
  refine lv_icmp_ge (tgt := 56) hx hb dX2_shift_43 (by decide) (fun c43 => ?_) (fun c43 => ?_)
  · skip
    have h43 : 4 ≤ v.wm := (nI_leI (a := 4) (b := v.wm) (by omega) (by omega)).mp c43
    exact join56 v.wm (if_neg (by omega)).symm _ _ _ (fz_cast (rfl) hW) (lv_sub hl [1] rfl)
  · skip
    have h43 : v.wm < 4 := Nat.not_le.mp (fun z => c43 ((nI_leI (a := 4) (b := v.wm) (by omega) (by omega)).mpr z))
    refine lv_aload_n hx hb dX2_shift_46 rfl (lv_at hl 1 rfl) ?_
    refine lv_dup hx hb dX2_shift_47 rfl ?_
    refine gf_X2_39 X hW 0 rfl rfl dX2_shift_48 ?_
    refine lv_iconst (v := 1) hx hb dX2_shift_51 (by decide) ?_
    refine lv_iadd hx hb dX2_shift_52 ?_
    refine fz_top (x' := nI (v.wm + 1)) (nI_1 _) ?_
    refine pf_X2_39 X hW 0 rfl (Nat.le_of_ble_eq_true rfl) dX2_shift_53 (fun H locs hW => ?_)
    exact join56 (v.wm + 1) (if_pos h43).symm _ _ _ (fz_cast (rfl) hW) (lv_sub hl [1] rfl)
set_option maxHeartbeats 4000000 in
set_option maxRecDepth 100000 in
theorem c_X2_copyFrom (l : Launch) (g : GG) (a b : Nat → Nat) (v u : SV) (hu : u.wm ≤ 4) : fz_C l g yX2_copyFrom cX2_copyFrom 3 none 2 53 [.ref (a 0), .ref (b 0)] (SW g a v ++ SW g b u) (SW g a (coV v u) ++ SW g b u) none := by
  refine fz_C.of (by decide) (Nat.le_of_ble_eq_true rfl) ?_
  intro p e s m args below meth c A ls X hW hl
  have hx := X.1
  have hb := X.2.1
  have hl : lv_has ls 3 [(0, .ref (a 0)), (1, .ref (b 0))] := hl
  have X : fz_X p s m meth c RX2 cX2_copyFrom 3 none g A := X
  have hW : fz_W g A s (SW g a v ++ SW g b u) s.heap [] := hW
  refine lv_aload_n hx hb dX2_copyFrom_0 rfl (lv_at hl 1 rfl) ?_
  refine gf_X2_9 X hW 17 rfl rfl dX2_copyFrom_1 ?_
  refine lv_iconst (v := 0) hx hb dX2_copyFrom_4 (by decide) ?_
  refine lv_aload_n hx hb dX2_copyFrom_5 rfl (lv_at hl 0 rfl) ?_
  refine gf_X2_9 X hW 0 rfl rfl dX2_copyFrom_6 ?_
  refine lv_iconst (v := 0) hx hb dX2_copyFrom_9 (by decide) ?_
  refine lv_bipush (v := 48) hx hb dX2_copyFrom_10 (by decide) ?_
  refine fz_ac_X2 X hW hl 18 1 rfl rfl 48 (by decide) (by decide) (by decide) rfl (Nat.le_of_ble_eq_true rfl) (Nat.le_of_ble_eq_true rfl) dX2_copyFrom_12 (fun H locs hW => ?_)
  refine lv_aload_n hx hb dX2_copyFrom_15 rfl (lv_at hl 1 rfl) ?_
  refine gf_X2_15 X hW 17 rfl rfl dX2_copyFrom_16 ?_
  refine lv_iconst (v := 0) hx hb dX2_copyFrom_19 (by decide) ?_
  refine lv_aload_n hx hb dX2_copyFrom_20 rfl (lv_at hl 0 rfl) ?_
  refine gf_X2_15 X hW 0 rfl rfl dX2_copyFrom_21 ?_
  refine lv_iconst (v := 0) hx hb dX2_copyFrom_24 (by decide) ?_
  refine lv_bipush (v := 48) hx hb dX2_copyFrom_25 (by decide) ?_
  refine fz_ac_X2 X hW hl 19 2 rfl rfl 48 (by decide) (by decide) (by decide) rfl (Nat.le_of_ble_eq_true rfl) (Nat.le_of_ble_eq_true rfl) dX2_copyFrom_27 (fun H locs hW => ?_)
  refine lv_aload_n hx hb dX2_copyFrom_30 rfl (lv_at hl 1 rfl) ?_
  refine gf_X2_18 X hW 17 rfl rfl dX2_copyFrom_31 ?_
  refine lv_iconst (v := 0) hx hb dX2_copyFrom_34 (by decide) ?_
  refine lv_aload_n hx hb dX2_copyFrom_35 rfl (lv_at hl 0 rfl) ?_
  refine gf_X2_18 X hW 0 rfl rfl dX2_copyFrom_36 ?_
  refine lv_iconst (v := 0) hx hb dX2_copyFrom_39 (by decide) ?_
  refine lv_bipush (v := 48) hx hb dX2_copyFrom_40 (by decide) ?_
  refine fz_ac_X2 X hW hl 20 3 rfl rfl 48 (by decide) (by decide) (by decide) rfl (Nat.le_of_ble_eq_true rfl) (Nat.le_of_ble_eq_true rfl) dX2_copyFrom_42 (fun H locs hW => ?_)
  refine lv_aload_n hx hb dX2_copyFrom_45 rfl (lv_at hl 1 rfl) ?_
  refine gf_X2_21 X hW 17 rfl rfl dX2_copyFrom_46 ?_
  refine lv_iconst (v := 0) hx hb dX2_copyFrom_49 (by decide) ?_
  refine lv_aload_n hx hb dX2_copyFrom_50 rfl (lv_at hl 0 rfl) ?_
  refine gf_X2_21 X hW 0 rfl rfl dX2_copyFrom_51 ?_
  refine lv_iconst (v := 0) hx hb dX2_copyFrom_54 (by decide) ?_
  refine lv_bipush (v := 48) hx hb dX2_copyFrom_55 (by decide) ?_
  refine fz_ac_X2 X hW hl 21 4 rfl rfl 48 (by decide) (by decide) (by decide) rfl (Nat.le_of_ble_eq_true rfl) (Nat.le_of_ble_eq_true rfl) dX2_copyFrom_57 (fun H locs hW => ?_)
  refine lv_aload_n hx hb dX2_copyFrom_60 rfl (lv_at hl 0 rfl) ?_
  refine lv_aload_n hx hb dX2_copyFrom_61 rfl (lv_at hl 1 rfl) ?_
  refine gf_X2_39 X hW 17 rfl rfl dX2_copyFrom_62 ?_
  refine pf_X2_39 X hW 0 rfl (Nat.le_of_ble_eq_true rfl) dX2_copyFrom_65 (fun H locs hW => ?_)
  refine lv_iconst (v := 0) hx hb dX2_copyFrom_68 (by decide) ?_
  refine lv_istore_n (lv' := [(2, .int 0), (0, .ref (a 0)), (1, .ref (b 0))]) hx hb dX2_copyFrom_69 rfl hl (by decide) rfl (fun ls hl => ?_)
  have loop70 : ∀ (k : Nat) (i : Nat), i ≤ u.wm → u.wm < i + k → ∀ (H : Heap) (locs : List Loc) (ls : Array Slot), fz_W g A s (SW g a (c1V v u (cmF u.mv v.mv i)) ++ SW g b u) H locs → lv_has ls 3 [(0, .ref (a 0)), (1, .ref (b 0)), (2, .int (nI i))] → W p l e (fz_R 2 0 0 53) s m args below meth c H locs 0 0 (MQ below (fz_Q g (SW g a (coV v u) ++ SW g b u) none A) args s 0 0 A) (F0 m 70 ls []) := by
    intro k
    induction k with
    | zero =>
      intro i hi hk
      omega
    | succ k ih70 =>
      intro i hi hk H locs ls hW hl
      refine lv_iload_n hx hb dX2_copyFrom_70 rfl (lv_at hl 2 rfl) ?_
      refine lv_aload_n hx hb dX2_copyFrom_71 rfl (lv_at hl 0 rfl) ?_
      refine gf_X2_39 X hW 0 rfl rfl dX2_copyFrom_72 ?_
      refine lv_icmp_ge (tgt := 99) hx hb dX2_copyFrom_75 (by decide) (fun c75 => ?_) (fun c75 => ?_)
      · skip
        have h75 : u.wm ≤ i := (nI_leI (a := u.wm) (b := i) (by omega) (by omega)).mp c75
        have e75 : i = u.wm := by omega
        have hl := lv_sub hl [0, 1] rfl
        have hl : lv_has ls 3 [(0, .ref (a 0)), (1, .ref (b 0))] := hl
        refine lv_aload_n hx hb dX2_copyFrom_99 rfl (lv_at hl 0 rfl) ?_
        refine gf_X2_46 X hW 0 rfl rfl dX2_copyFrom_100 ?_
        refine lv_aload_n hx hb dX2_copyFrom_103 rfl (lv_at hl 1 rfl) ?_
        refine gf_X2_46 X hW 17 rfl rfl dX2_copyFrom_104 ?_
        refine fz_cVv X hW (cs_kc2 l g a b (c1V v u (cmF u.mv v.mv i)) u) lk_X2_73 (ci := 1) (q0 := 9) rfl rfl rfl rfl ⟨Nat.le_of_ble_eq_true rfl, Nat.le_of_ble_eq_true rfl⟩ hl rfl (Nat.le_of_ble_eq_true rfl) dX2_copyFrom_107 ⟨Nat.le_refl _, Nat.le_refl _⟩ (fun H locs hW => ?_)
        refine lv_aload_n hx hb dX2_copyFrom_110 rfl (lv_at hl 1 rfl) ?_
        refine gf_X2_50 X hW 17 rfl rfl dX2_copyFrom_111 ?_
        refine lv_iconst (v := 0) hx hb dX2_copyFrom_114 (by decide) ?_
        refine lv_aload_n hx hb dX2_copyFrom_115 rfl (lv_at hl 0 rfl) ?_
        refine gf_X2_50 X hW 0 rfl rfl dX2_copyFrom_116 ?_
        refine lv_iconst (v := 0) hx hb dX2_copyFrom_119 (by decide) ?_
        refine lv_iconst (v := 4) hx hb dX2_copyFrom_120 (by decide) ?_
        refine fz_ac_X2 X hW hl 28 11 rfl rfl 4 (by decide) (by decide) (by decide) rfl (Nat.le_of_ble_eq_true rfl) (Nat.le_of_ble_eq_true rfl) dX2_copyFrom_121 (fun H locs hW => ?_)
        refine lv_aload_n hx hb dX2_copyFrom_124 rfl (lv_at hl 0 rfl) ?_
        refine lv_aload_n hx hb dX2_copyFrom_125 rfl (lv_at hl 1 rfl) ?_
        refine gf_X2_53 X hW 17 rfl rfl dX2_copyFrom_126 ?_
        refine pf_X2_53 X hW 0 rfl (Nat.le_of_ble_eq_true rfl) dX2_copyFrom_129 (fun H locs hW => ?_)
        refine lv_aload_n hx hb dX2_copyFrom_132 rfl (lv_at hl 0 rfl) ?_
        refine lv_aload_n hx hb dX2_copyFrom_133 rfl (lv_at hl 1 rfl) ?_
        refine gf_X2_56 X hW 17 rfl rfl dX2_copyFrom_134 ?_
        refine pf_X2_56 X hW 0 rfl (Nat.le_of_ble_eq_true rfl) dX2_copyFrom_137 (fun H locs hW => ?_)
        refine lv_aload_n hx hb dX2_copyFrom_140 rfl (lv_at hl 0 rfl) ?_
        refine lv_aload_n hx hb dX2_copyFrom_141 rfl (lv_at hl 1 rfl) ?_
        refine gf_X2_59 X hW 17 rfl rfl dX2_copyFrom_142 ?_
        refine pf_X2_59 X hW 0 rfl (Nat.le_of_ble_eq_true rfl) dX2_copyFrom_145 (fun H locs hW => ?_)
        exact fz_rv X (fz_cast (by rw [e75]; rfl) hW) dX2_copyFrom_148
      · skip
        have h75 : i < u.wm := Nat.not_le.mp (fun z => c75 ((nI_leI (a := u.wm) (b := i) (by omega) (by omega)).mpr z))
        refine lv_aload_n hx hb dX2_copyFrom_78 rfl (lv_at hl 0 rfl) ?_
        refine gf_X2_35 X hW 0 rfl rfl dX2_copyFrom_79 ?_
        refine lv_iload_n hx hb dX2_copyFrom_82 rfl (lv_at hl 2 rfl) ?_
        refine fz_ql X hW 8 (i) rfl rfl (by omega) (by decide) (if_pos (by omega)) dX2_copyFrom_83 ?_
        refine lv_aload_n hx hb dX2_copyFrom_84 rfl (lv_at hl 1 rfl) ?_
        refine gf_X2_35 X hW 17 rfl rfl dX2_copyFrom_85 ?_
        refine lv_iload_n hx hb dX2_copyFrom_88 rfl (lv_at hl 2 rfl) ?_
        refine fz_ql X hW 25 (i) rfl rfl (by omega) (by decide) (if_pos (by omega)) dX2_copyFrom_89 ?_
        refine fz_cVv X hW (cs_cp2 l g a b (c1V v u (cmF u.mv v.mv i)) u i (by omega)) lk_X2_69 (ci := 0) (q0 := 12 + i) rfl rfl (SW_bm2 _ _ _ _ _ _ (by omega)) rfl ⟨Nat.le_of_ble_eq_true rfl, Nat.le_of_ble_eq_true rfl⟩ hl rfl (Nat.le_of_ble_eq_true rfl) dX2_copyFrom_90 ⟨Nat.le_refl _, Nat.le_refl _⟩ (fun H locs hW => ?_)
        refine lv_iinc (v := nI (i + 1)) (lv' := [(2, .int (nI (i + 1))), (0, .ref (a 0)), (1, .ref (b 0))]) hx hb dX2_copyFrom_93 hl (k := 2) rfl (nI_1 _) (by decide) rfl (fun ls hl => ?_)
        refine lv_goto (tgt := 70) hx hb dX2_copyFrom_96 (by decide) ?_
        exact ih70 (i + 1) (by omega) (by omega) _ _ _ (fz_cast (congrArg (fun z => SW g a (c1V v u z) ++ SW g b u) (cmF_s u.mv v.mv i)) hW) (lv_sub hl [1, 2, 0] rfl)
  exact loop70 (u.wm + 1) 0 (by omega) (by omega) _ _ _ (fz_cast (congrArg (fun z => SW g a (c1V v u z) ++ SW g b u) (cmF_0 u.mv v.mv).symm) hW) (lv_sub hl [1, 2, 0] rfl)
end
section
/-! methods that return or throw -/
abbrev XIO : String := "java/lang/IndexOutOfBoundsException"
abbrev XIA : String := "java/lang/IllegalArgumentException"
abbrev XNM : List String := ["java/lang/RuntimeException", "java/lang/Exception"]
theorem xm_io : ∀ w ∈ vx_atS RX3 103 XIO XNM, w ∈ lw_tbl ∧ fz_keep w = true := by decide +kernel
theorem xm_ia : ∀ w ∈ vx_atS RX3 27 XIA XNM, w ∈ lw_tbl ∧ fz_keep w = true := by decide +kernel
theorem xg_io : ∀ w ∈ Cond.classLink RX3 99 XIO :: Cond.initialized XIO :: vx_atS RX3 103 XIO XNM, vx_ot w = true := by decide +kernel
theorem xg_ia : ∀ w ∈ Cond.classLink RX3 23 XIA :: Cond.initialized XIA :: vx_atS RX3 27 XIA XNM, vx_ot w = true := by decide +kernel
theorem xk_io : fz_M (.classLink RX3 99 XIO) := ⟨List.mem_of_getElem? (i := 153) (by decide +kernel), by decide +kernel⟩
theorem xk_ia : fz_M (.classLink RX3 23 XIA) := ⟨List.mem_of_getElem? (i := 221) (by decide +kernel), by decide +kernel⟩
theorem xi_io : fz_M (.initialized XIO) := ⟨List.mem_of_getElem? (i := 22) (by decide +kernel), by decide +kernel⟩
theorem xi_ia : fz_M (.initialized XIA) := ⟨List.mem_of_getElem? (i := 23) (by decide +kernel), by decide +kernel⟩
def fz_Z (A : Nat → Prop) (U : State) (H : Heap) : Prop := vx_Zq Bundle.tN "UNASSIGNED_STACK" Bundle.steD A U H ∧ vx_Zq Bundle.tN "SUPPRESSED_SENTINEL" Bundle.listD A U H
def fz_strs : List (Nat × String) := [(129, "no such tile"), (131, "no such block"), (25, "no such picture"), (38, "the block would come to where it is"), (133, "no such budget"), (101, "not so many pictures are known"), (107, "nothing is sent so")]
def fz_T (U : State) : Prop := ∀ q ∈ fz_strs, ∃ sa : Nat, vk_R RX3 q.1 q.2 sa U
def fz_PX (g : GG) (as : List Value) (W0 : va_W) (sz : Nat) : Array Value → State → Prop := va_Pc as (fun U => U.heap.size = sz ∧ va_P g.1 classes W0 U.heap ∧ fz_E g U ∧ va_D (fun _ => True) W0 ∧ fz_Z (va_A W0 sz) U U.heap ∧ fz_T U)
def fz_QX (ex : Option String) (g : GG) (W1 : va_W) (v : Option Value) (A : Nat → Prop) : Array Value → State → Outcome → State → Prop := fun a st o t => ex = none ∧ fz_Q g W1 v A a st o t
def fz_XX (ex : Option String) (g : GG) (W0 : va_W) (A : Nat → Prop) : String → State → State → Prop := fun E st t => ex = some E ∧ va_P g.1 classes W0 t.heap ∧ va_D A W0 ∧ va_F A st t
/-- a contract: v is answered over the world W1, or E is thrown and the world is as it was -/
def fz_CX (l : Launch) (g : GG) (y : MethodName) (b : ByteArray) (n : Nat) (ret : Option FieldType) (rf rc rs rl : Nat) (as : List Value) (W0 W1 : va_W) (v : Option Value) (ex : Option String) : Prop :=
  ∀ sz : Nat, vx_Met l y [.code y b n ret] (fz_R rf rc rs rl) (fz_PX g as W0 sz) (fz_QX ex g W1 v (va_A W0 sz)) (fz_XX ex g W0 (va_A W0 sz)) rc rs (va_A W0 sz)
def fz_Y (s : State) (A : Nat → Prop) : Prop := fz_Z A s s.heap ∧ fz_T s
theorem fz_Z.call {A : Nat → Prop} {U : State} {f : JFrame} {mk : MethodId} {a : Array Value} (h : fz_Z A U U.heap) : fz_Z A (U.calling f mk a) (U.calling f mk a).heap := ⟨vx_Zq.moved (u := U) (U := U.calling f mk a) (Vm.Alike.refl U.vm) h.1, vx_Zq.moved (u := U) (U := U.calling f mk a) (Vm.Alike.refl U.vm) h.2⟩
theorem fz_T.call {U : State} {f : JFrame} {mk : MethodId} {a : Array Value} (h : fz_T U) : fz_T (U.calling f mk a) := fun q hq => (h q hq).imp fun _ k => vk_R.same (u := U) (U := U.calling f mk a) rfl k
theorem fz_T.warm {s U : State} (hW : s.WarmedH U.vm) (h : fz_T s) : fz_T U := fun q hq => (h q hq).imp fun _ k => vk_R.warm hW k
theorem fz_Z.warm {A B : Nat → Prop} {s U : State} {H0 H : Heap} {locs : List Loc} (hW : s.WarmedH U.vm) (h : fz_Z A s H0) (hS : va_S A H0 H locs) (hAB : ∀ q, B q → A q) : fz_Z B U H := ⟨vx_Zq.narrow (vx_Zq.moved hW.alike (vx_Zq.kept h.1 hS.2.1)) hAB, vx_Zq.narrow (vx_Zq.moved hW.alike (vx_Zq.kept h.2 hS.2.1)) hAB⟩
theorem fz_PX.blind {g : GG} {as : List Value} {W0 : va_W} {sz : Nat} : FrameBlind (fz_PX g as W0 sz) := fun a U f mk q => by
  obtain ⟨q0, q1, qP, qE, qD, qZ, qT⟩ := q
  exact ⟨q0, q1, qP, fz_E.call qE, qD, fz_Z.call qZ, fz_T.call qT⟩
theorem fz_CX.of {l : Launch} {g : GG} {y : MethodName} {b : ByteArray} {n : Nat} {ret : Option FieldType} {rf rc rs rl : Nat} {as : List Value} {W0 W1 : va_W} {v : Option Value} {ex : Option String} (hy : plainName y.cls = true) (hn : (lg_sl as).length ≤ n)
    (body : ∀ (p : Program) (e : Env) (s : State) (m : MethodId) (args : Array Value) (below : List Frame) (meth : Method) (c : Code) (A : Nat → Prop) (ls : Array Slot), fz_X p s m meth c y.cls b n ret g A → fz_Y s A → (∀ x ∈ c.exceptionTable.toList, False) → fz_W g A s W0 s.heap [] → lv_has ls n (lv_args 0 as) →
      W p l e (fz_R rf rc rs rl) s m args below meth c s.heap [] 0 0 (vx_MQ below (fz_QX ex g W1 v A) (fz_XX ex g W0 A) args s rc rs A) (F0 m 0 ls [])) : fz_CX l g y b n ret rf rc rs rl as W0 W1 v ex := by
  intro sz
  refine vx_ofW (cc := b) (maxL := n) (ret := ret) hy rfl ?_
  intro p e s m args below meth c s₁ B hml htab hv
  obtain ⟨rfl, hsz, hP, hE, hD0, hZ, hT⟩ := hv
  subst hsz
  have hD : va_D (va_A W0 s.heap.size) W0 := hD0.self (sz := s.heap.size)
  have hl := lv_entry as (n := n) hn
  rw [lg_entry_eq]
  exact body p e s m as.toArray below meth c _ _ ⟨B.exec, B.bytes, B.returns, hml, findClass_of_methodNamed B.named, B.notSynchronized, hE, fun q h => Or.inr h⟩ ⟨hZ, hT⟩ htab ⟨hP, hD, va_S.rf⟩ hl
theorem fz_consX {l : Launch} {y : MethodName} {ws : List Cond} {rm : Room} {Pc Pc' : Array Value → State → Prop} {Qc Qc' : Array Value → State → Outcome → State → Prop} {XC XC' : String → State → State → Prop} {mc ms : Nat} {free free' : Addr → Prop} (h : vx_Met l y ws rm Pc Qc XC mc ms free)
    (hP : ∀ a s, Pc' a s → Pc a s) (hQ : ∀ a s o t, Pc' a s → Qc a s o t → Qc' a s o t) (hX : ∀ a E s t, Pc' a s → XC E s t → XC' E s t) (hf : ∀ q, free q → free' q) : vx_Met l y ws rm Pc' Qc' XC' mc ms free' := by
  intro p e ha hc hk s m args below hfr happ hp hK
  obtain ⟨k, o, h1, h2, h3, h4⟩ := h p e ha hc hk s m args below hfr happ (hP _ _ hp) hK
  refine ⟨k, o, h1, h2, h3, ?_⟩
  rcases h4 with ⟨h4, L, h5, h6⟩ | ⟨q, h4, E, ce, L, h5, h6, h7, h8, h9, h10, h11⟩
  · exact Or.inl ⟨hQ _ _ _ _ hp h4, L, h5, fun q hq => hf _ (h6 q hq)⟩
  · exact Or.inr ⟨q, h4, E, ce, L, hX _ _ _ _ hp h5, h6, h7, h8, h9, h10, fun z hz => hf _ (h11 z hz)⟩
theorem fz_CX.frame {l : Launch} {g : GG} {y : MethodName} {b : ByteArray} {n : Nat} {ret : Option FieldType} {rf rc rs rl : Nat} {as : List Value} {wc w1 : va_W} {v : Option Value} {ex : Option String} (h : fz_CX l g y b n ret rf rc rs rl as wc w1 v ex) {ws ws1 : va_W} (isC isR isX : List Nat)
    (hC : isC.map (fun i => ws[i]?) = wc.map some) (hc : va_nd isC = true) (hR : isR.map (fun i => ws[i]?) = (isR.filterMap (fun i => ws[i]?)).map some) (hn : va_nd isR = true) (hdis : ∀ i ∈ isR, i ∉ isC) (hX : isX.map (fun i => (isR.filterMap (fun i => ws[i]?) ++ w1)[i]?) = ws1.map some) (hX0 : isX.map (fun i => (isR.filterMap (fun i => ws[i]?) ++ wc)[i]?) = ws.map some) (hx : va_nd isX = true) : fz_CX l g y b n ret rf rc rs rl as ws ws1 v ex := by
  intro sz
  refine fz_consX (h sz) ?_ ?_ ?_ (fz_A.sub isC hC)
  · intro a s hp
    obtain ⟨h1, h2, h3, h4, h5, h6, h7⟩ := hp
    exact ⟨h1, h2, fz_P.pick h3 isC hC, h4, h5.sub isC hc hC, ⟨vx_Zq.narrow h6.1 (fz_A.sub isC hC), vx_Zq.narrow h6.2 (fz_A.sub isC hC)⟩, h7⟩
  · intro a s o t hp hq
    obtain ⟨h1, h2, h3, h4, h5, h6, h7⟩ := hp
    obtain ⟨q0, ⟨q1, q2, q3⟩, q4, q5⟩ := hq
    subst h2
    have hD5 : va_D (va_A ws s.heap.size) ws := h5.self
    obtain ⟨j1, j2⟩ := va_join (A0 := va_A ws s.heap.size) h3 hD5 isC isR hC hR hn hdis q5 (fz_A.sub isC hC) q2 q3
    exact ⟨q0, ⟨q1, fz_P.pick j1 isX hX, j2.sub isX hx hX⟩, q4, fun q hq hA => q5 q hq (fun z => hA (fz_A.sub isC hC q z))⟩
  · intro a E s t hp hq
    obtain ⟨h1, h2, h3, h4, h5, h6, h7⟩ := hp
    obtain ⟨q0, q2, q3, q4, q5⟩ := hq
    subst h2
    have hD5 : va_D (va_A ws s.heap.size) ws := h5.self
    obtain ⟨j1, j2⟩ := va_join (A0 := va_A ws s.heap.size) h3 hD5 isC isR hC hR hn hdis q5 (fz_A.sub isC hC) q2 q3
    exact ⟨q0, fz_P.pick j1 isX hX0, j2.sub isX hx hX0, q4, fun q hq hA => q5 q hq (fun z => hA (fz_A.sub isC hC q z))⟩
section FZX
variable {p : Program} {l : Launch} {e : Env} {R : Room} {s : State} {m : MethodId} {args : Array Value} {below : List Frame} {meth : Method} {c : Code} {H : Heap} {locs : List Loc} {cells slots : Nat} {Q : State → Prop}
variable {own : String} {cc : ByteArray} {n : Nat} {ret : Option FieldType} {g : GG} {A : Nat → Prop} {ws W0 W1 : va_W} {v : Option Value} {ex : Option String} {rc rs : Nat} {pc : Nat} {ls : Array Slot} {rest : List Value} {a : Nat}
theorem fz_xt (X : fz_X p s m meth c RX3 cc n ret g A) (Y : fz_Y s A) (htab : ∀ x ∈ c.exceptionTable.toList, False) (hfl : l.stackTraces = false) (hW : fz_W g A s W0 H locs) {lv : List (Nat × Value)} (hl : lv_has ls n lv) {cls text : String} {ik is ic : Nat} (hcls : Bundle.fit cls = true) (hnm : ∀ z ∈ XNM, Bundle.fit z = true) (hk : fz_M (.classLink RX3 ik cls)) (hi : fz_M (.initialized cls)) (hat : ∀ w ∈ vx_atS RX3 ic cls XNM, w ∈ lw_tbl ∧ fz_keep w = true) (hgood : ∀ w ∈ Cond.classLink RX3 ik cls :: Cond.initialized cls :: vx_atS RX3 ic cls XNM, vx_ot w = true) (htx : (is, text) ∈ fz_strs) (hex : ex = some cls)
    (d0 : decode cc pc = .ok (.new ik, 3)) (d3 : decode cc (pc + 3) = .ok (.dup, 1)) (d4 : decode cc (pc + 4) = .ok (.ldc is, 2)) (d6 : decode cc (pc + 6) = .ok (.invokespecial ic, 3)) (d9 : decode cc (pc + 9) = .ok (.athrow, 1))
    (hfr : 5 < R.frames) (hlo : (rest.map fun v => v.category).sum + 82 ≤ R.locals) (hcR : cells + 1 ≤ R.cells ∧ slots + 6 ≤ R.slots) (hcm : cells + 1 ≤ rc ∧ slots + 6 ≤ rs) :
    W p l e R s m args below meth c H locs cells slots (vx_MQ below (fz_QX ex g W1 v A) (fz_XX ex g W0 A) args s rc rs A) (F0 m pc ls rest) := by
  have hE := X.2.2.2.2.2.2.1
  obtain ⟨sa, hsa⟩ := Y.2 _ htx
  refine vx_throwS (names := XNM) X.1 X.2.1 hfl X.2.2.2.2.1 hcls hnm (hE.use hk args) (hE.use hi args) hsa (fun w hw => hE.use (hat w hw) args) hgood Y.1.1 Y.1.2 hW.2.2 (hl.1.trans X.2.2.2.1.symm) d0 d3 d4 d6 d9 (fun x hx => absurd (htab x hx) id) hfr hlo hcR.1 hcR.2 X.2.2.2.2.2.1 (fun t ht hz hk => ?_) hW.2.2.2.2 hcm.1 hcm.2
  exact ⟨hex, hW.1.kept (fun k q hq => hk q.1 (vx_lt hW.1 hq)), hW.2.1, Nat.le_trans hW.2.2.1 hz, fun q h1 h2 => by rw [hk q (Nat.lt_of_lt_of_le h1 hW.2.2.1)]; exact hW.2.2.2.1 q h1 h2⟩
theorem fz_preX (X : fz_X p s m meth c own cc n ret g A) (Y : fz_Y s A) (hW : fz_W g A s ws H locs) (as : List Value) : ∀ U : State, U.heap = H → s.WarmedH U.vm → fz_PX g as ws H.size as.toArray U := by
  intro U hU hw
  have hF := fz_freeA X.2.2.2.2.2.2.2 hW
  exact ⟨rfl, by rw [hU], by rw [hU]; exact hW.1, fz_E.warm hw X.2.2.2.2.2.2.1, hW.2.1.weaken (fun _ _ _ _ => trivial), by rw [hU]; exact fz_Z.warm hw Y.1 hW.2.2 hF, fz_T.warm hw Y.2⟩
/-- behind a call of a method that returns or throws -/
theorem fz_xback (X : fz_X p s m meth c own cc n ret g A) (hW : fz_W g A s ws H locs) {ws1 : va_W} {v' : Option Value} {ex' : Option String} {mc ms : Nat} {st0 : List Value} {av : Array Value} (hr : vx_Run p l e R s m args below meth c H locs cells slots mc ms (F0 m pc ls st0) rest (fz_QX ex' g ws1 v' (va_A ws H.size) av) (fz_XX ex' g ws (va_A ws H.size)) (va_A ws H.size))
    (kx : ∀ (E : String) (q : Addr) (ce : Cell) (H1 : Heap) (locs1 : List Loc), ex' = some E → fz_W g A s ws H1 locs1 → H1[q]? = some ce → ce.vm = .none → s.vm.findClass E = some ce.cls → vx_W p l e R s m args below meth c H1 locs1 (cells + mc) (slots + ms) Q (F0 m pc ls rest) q)
    (kk : ∀ (H1 : Heap) (locs1 : List Loc), ex' = none → fz_W g A s ws1 H1 locs1 → W p l e R s m args below meth c H1 locs1 (cells + mc) (slots + ms) Q (F0 m (pc + 3) ls (v'.toList ++ rest))) : W p l e R s m args below meth c H locs cells slots Q (F0 m pc ls st0) := by
  have hF := fz_freeA X.2.2.2.2.2.2.2 hW
  intro T hT Y
  rcases hr T hT Y with ⟨v9, st₀, t, T', L, h0, X', hL, e1, e2, ⟨hex, ⟨hv, hP, hD⟩, hz, hk⟩, st⟩ | ⟨q, st₀, t, T', L, E, ce, h0, X', hL, e1, e2, ⟨hex, hP, hD, hz, hk⟩, hce, hcv, hcl, st⟩
  · cases hv
    rw [h0] at hz hk
    obtain ⟨t2, a1, b1⟩ := kk T'.heap (locs ++ L) hex ⟨by rw [e1]; exact hP, hD.weaken (fun k q _ h => hF q.1 h), Nat.le_trans hW.2.2.1 (by rw [e1]; exact hz), fun q h1 h2 => by rw [e1, hk q (Nat.lt_of_lt_of_le h1 hW.2.2.1) (fun z => h2 (hF q z))]; exact hW.2.2.2.1 q h1 h2, fun q hq => by
      rcases List.mem_append.mp hq with h | h
      · exact hW.2.2.2.2 q h
      · exact hF _ (hL q h)⟩ T' rfl X'
    exact ⟨t2, st t2 a1, b1⟩
  · rw [h0] at hz hk
    obtain ⟨t2, a1, b1⟩ := kx E q ce T'.heap (locs ++ L) hex ⟨by rw [e1]; exact hP, hD.weaken (fun k q _ h => hF q.1 h), Nat.le_trans hW.2.2.1 (by rw [e1]; exact hz), fun q h1 h2 => by rw [e1, hk q (Nat.lt_of_lt_of_le h1 hW.2.2.1) (fun z => h2 (hF q z))]; exact hW.2.2.2.1 q h1 h2, fun q hq => by
      rcases List.mem_append.mp hq with h | h
      · exact hW.2.2.2.2 q h
      · exact hF _ (hL q h)⟩ (by rw [e1]; exact hce) hcv hcl T' rfl X'
    exact ⟨t2, st.trans a1, b1⟩
/-- a check: a static method that throws or lets pass; what it throws goes on to the caller -/
theorem fz_xc (X : fz_X p s m meth c own cc n ret g A) (Y : fz_Y s A) (htab : ∀ x ∈ c.exceptionTable.toList, False) (hW : fz_W g A s W0 H locs) {y : MethodName} {b : ByteArray} {n' np rf rc' rs' rl idx : Nat} {As : List Value} {ex' : Option String} {lv : List (Nat × Value)} {st0 : List Value}
    (hM : fz_CX l g y b n' none rf rc' rs' rl As W0 W0 none ex') (hL : fz_LS own idx y b n' none np) (hp : ∀ E, ex' = some E → ex = some E) (hn : As.length = np) (hR : rf + 1 ≤ R.frames ∧ 8 + (n' + 11) + rl ≤ R.locals) (hl : lv_has ls n lv) (hst : st0 = As.reverse ++ rest) (hrm : (rest.map fun v => v.category).sum ≤ 8) (hdg : decode cc pc = .ok (.invokestatic idx, 3)) (hcR : cells + rc' ≤ R.cells ∧ slots + rs' ≤ R.slots) (hcm : cells + rc' ≤ rc ∧ slots + rs' ≤ rs)
    (kk : ∀ (H1 : Heap) (locs1 : List Loc), ex' = none → fz_W g A s W0 H1 locs1 → W p l e R s m args below meth c H1 locs1 (cells + rc') (slots + rs') (vx_MQ below (fz_QX ex g W1 v A) (fz_XX ex g W0 A) args s rc rs A) (F0 m (pc + 3) ls rest)) : W p l e R s m args below meth c H locs cells slots (vx_MQ below (fz_QX ex g W1 v A) (fz_XX ex g W0 A) args s rc rs A) (F0 m pc ls st0) := by
  have hE := X.2.2.2.2.2.2.1
  refine fz_xback X hW (vx_runS (y := y) (n := np) (Ts := []) ⟨X.1, X.2.1, X.2.2.2.1, X.2.2.2.2.1, fun _ h => absurd h List.not_mem_nil⟩ (hM H.size) ⟨fz_callB X hL.1 hL.2.1 hR, hE.use hL.2.2 _⟩ ⟨fz_PX.blind, fz_preX X Y hW _⟩ rfl hn hl.1 hst (lv_room hrm) hdg hcR) (fun E q ce H1 locs1 h1 h2 h3 h4 h5 => ?_) kk
  exact vx_out (fun x hx => absurd (htab x hx) id) X.2.2.2.2.2.1 h3 h4 h5 (fun t ht ha => ⟨hp E h1, by rw [ht]; exact h2.1, h2.2.1, by rw [ht]; exact h2.2.2.1, fun q q1 q2 => by rw [ht]; exact h2.2.2.2.1 q q1 q2⟩) h2.2.2.2.2 hcm.1 hcm.2
theorem fz_xri (X : fz_X p s m meth c own cc n (some .int) g A) (hW : fz_W g A s W1 H locs) (hex : ex = none) {x x' : Int32} (hv : x' = x) (hc : cells ≤ rc ∧ slots ≤ rs) (hdg : decode cc pc = .ok (.ireturn, 1)) : W p l e R s m args below meth c H locs cells slots (vx_MQ below (fz_QX ex g W1 (some (.int x)) A) (fz_XX ex g W0 A) args s rc rs A) (F0 m pc ls [.int x']) := by
  subst hv
  exact vx_ret (W.widen hc.1 hc.2 (W.iret X.1 X.2.1 X.2.2.1 (fun t ht _ => ⟨hex, ⟨rfl, by rw [ht]; exact hW.1, hW.2.1⟩, hW.2.2.F ht⟩) hW.2.2.2.2 hdg X.2.2.2.2.2.1))
theorem fz_xrv (X : fz_X p s m meth c own cc n none g A) (hW : fz_W g A s W1 H locs) (hex : ex = none) (hc : cells ≤ rc ∧ slots ≤ rs) (hdg : decode cc pc = .ok (.return_, 1)) : W p l e R s m args below meth c H locs cells slots (vx_MQ below (fz_QX ex g W1 none A) (fz_XX ex g W0 A) args s rc rs A) (F0 m pc ls []) :=
  vx_ret (W.widen hc.1 hc.2 (W.vret X.1 X.2.1 X.2.2.1 (fun t ht _ => ⟨hex, ⟨rfl, by rw [ht]; exact hW.1, hW.2.1⟩, hW.2.2.F ht⟩) hW.2.2.2.2 hdg X.2.2.2.2.2.1))
end FZX
end
section
abbrev okT (x y : Int32) : Prop := ¬ x < 0 ∧ ¬ 8 ≤ x ∧ ¬ y < 0 ∧ y < 6
abbrev okB (x y w h : Int32) : Prop := okT x y ∧ ¬ w < 1 ∧ ¬ 8 - x < w ∧ ¬ h < 1 ∧ h ≤ 6 - y
abbrev okG (b : Int32) : Prop := ¬ b < 0 ∧ b ≤ 300
abbrev okP (x : Int32) : Prop := ¬ x < 0 ∧ x ≤ 255
def exT (x y : Int32) : Option String := if okT x y then none else some XIO
def exB (x y w h : Int32) : Option String := if okB x y w h then none else some XIO
def exG (b : Int32) : Option String := if okG b then none else some XIA
def exF (x y w h q : Int32) : Option String := if okB x y w h then (if okP q then none else some XIA) else some XIO
def exM (x y w h tx ty : Int32) : Option String := if okB x y w h then (if okB tx ty w h then (if x = tx ∧ y = ty then some XIA else none) else some XIO) else some XIO
def exK (kc : Nat) (x : Int32) : Option String := if ¬ x < 0 ∧ x < nI kc then none else some XIO
def exS (x : Int32) : Option String := if ¬ x < 0 ∧ x < 4 then none else some XIA
theorem ex_n {c : Prop} [Decidable c] {E : String} (h : (if c then none else some E) = (none : Option String)) : c := by
  rcases Classical.em c with k | k
  · exact k
  · rw [if_neg k] at h
    cases h
theorem ex_p {c : Prop} [Decidable c] {E F : String} {z : Option String} (h : (if c then none else some E) = some F) : (if c then z else some E) = some F := by
  rcases Classical.em c with k | k
  · rw [if_pos k] at h
    cases h
  · rw [if_neg k] at h ⊢
    exact h
def tN (x y : Int32) : Nat := 8 * y.toNatClampNeg + x.toNatClampNeg
theorem okT_nat {x y : Int32} (h : okT x y) : ∃ i j : Nat, x = nI i ∧ y = nI j ∧ i < 8 ∧ j < 6 ∧ tN x y = 8 * j + i := by
  obtain ⟨h1, h2, h3, h4⟩ := h
  obtain ⟨i, hi, ei⟩ := nI_of h1
  obtain ⟨j, hj, ej⟩ := nI_of h3
  have i8 : i < 8 := Nat.not_le.mp (fun z => h2 (by rw [ei]; exact (nI_leI (a := 8) (b := i) (by omega) hi).mpr z))
  have j6 : j < 6 := (nI_ltI (a := j) (b := 6) hj (by omega)).mp (by rw [← ej]; exact h4)
  refine ⟨i, j, ei, ej, i8, j6, ?_⟩
  unfold tN
  rw [ei, ej, nI_clamp hi, nI_clamp hj]
theorem okB_nat {x y w h : Int32} (k : okB x y w h) : ∃ i j wd hg : Nat, x = nI i ∧ y = nI j ∧ w = nI wd ∧ h = nI hg ∧ 1 ≤ wd ∧ 1 ≤ hg ∧ i + wd ≤ 8 ∧ j + hg ≤ 6 ∧ x.toNatClampNeg = i ∧ y.toNatClampNeg = j ∧ w.toNatClampNeg = wd ∧ h.toNatClampNeg = hg := by
  obtain ⟨k0, k1, k2, k3, k4⟩ := k
  obtain ⟨i, j, ei, ej, i8, j6, -⟩ := okT_nat k0
  have w0 : ¬ w < 0 := fun z => k1 (Int32.lt_trans z (by decide))
  have h0 : ¬ h < 0 := fun z => k3 (Int32.lt_trans z (by decide))
  obtain ⟨wd, hw, ew⟩ := nI_of w0
  obtain ⟨hg, hh, eh⟩ := nI_of h0
  subst ei; subst ej; subst ew; subst eh
  have e8 : (8 : Int32) - nI i = nI (8 - i) := pk_sub (a := 8) (by omega)
  have e6 : (6 : Int32) - nI j = nI (6 - j) := pk_sub (a := 6) (by omega)
  rw [e8] at k2
  rw [e6] at k4
  have a1 : 1 ≤ wd := Nat.not_lt.mp (fun z => k1 ((nI_ltI (a := wd) (b := 1) hw (by omega)).mpr z))
  have a3 : 1 ≤ hg := Nat.not_lt.mp (fun z => k3 ((nI_ltI (a := hg) (b := 1) hh (by omega)).mpr z))
  have a2 : wd ≤ 8 - i := Nat.not_lt.mp (fun z => k2 ((nI_ltI (by omega) hw).mpr z))
  have a4 : hg ≤ 6 - j := (nI_leI hh (by omega)).mp k4
  exact ⟨i, j, wd, hg, rfl, rfl, rfl, rfl, a1, a3, by omega, by omega, nI_clamp (by omega), nI_clamp (by omega), nI_clamp hw, nI_clamp hh⟩
set_option maxHeartbeats 4000000 in
set_option maxRecDepth 100000 in
theorem c_X3_checkTile (l : Launch) (hfl : l.stackTraces = false) (g : GG) (x y : Int32) (ws : va_W) : fz_CX l g yX3_checkTile cX3_checkTile 2 none 6 1 6 90 [.int x, .int y] (ws) (ws) none (exT x y) := by
  refine fz_CX.of (by decide) (Nat.le_of_ble_eq_true rfl) ?_
  intro p e s m args below meth c A ls X Y htab hW hl
  have hx := X.1
  have hb := X.2.1
  have hl : lv_has ls 2 [(0, .int x), (1, .int y)] := hl
  have X : fz_X p s m meth c RX3 cX3_checkTile 2 none g A := X
  have hW : fz_W g A s (ws) s.heap [] := hW
  refine lv_iload_n hx hb dX3_checkTile_0 rfl (lv_at hl 0 rfl) ?_
  refine lv_if_lt (tgt := 20) hx hb dX3_checkTile_1 (by decide) (fun c1 => ?_) (fun c1 => ?_)
  · skip
    exact fz_xt X Y htab hfl hW hl (by decide +kernel) (by decide +kernel) xk_io xi_io xm_io xg_io (List.mem_of_getElem? (i := 0) rfl) (by unfold exT; rw [if_neg (fun h => h.1 c1)]) dX3_checkTile_20 dX3_checkTile_23 dX3_checkTile_24 dX3_checkTile_26 dX3_checkTile_29 (Nat.le_of_ble_eq_true rfl) (Nat.le_of_ble_eq_true rfl) ⟨Nat.le_of_ble_eq_true rfl, Nat.le_of_ble_eq_true rfl⟩ ⟨Nat.le_of_ble_eq_true rfl, Nat.le_of_ble_eq_true rfl⟩
  · skip
    refine lv_iload_n hx hb dX3_checkTile_4 rfl (lv_at hl 0 rfl) ?_
    refine lv_bipush (v := 8) hx hb dX3_checkTile_5 (by decide) ?_
    refine lv_icmp_ge (tgt := 20) hx hb dX3_checkTile_7 (by decide) (fun c7 => ?_) (fun c7 => ?_)
    · skip
      exact fz_xt X Y htab hfl hW hl (by decide +kernel) (by decide +kernel) xk_io xi_io xm_io xg_io (List.mem_of_getElem? (i := 0) rfl) (by unfold exT; rw [if_neg (fun h => h.2.1 c7)]) dX3_checkTile_20 dX3_checkTile_23 dX3_checkTile_24 dX3_checkTile_26 dX3_checkTile_29 (Nat.le_of_ble_eq_true rfl) (Nat.le_of_ble_eq_true rfl) ⟨Nat.le_of_ble_eq_true rfl, Nat.le_of_ble_eq_true rfl⟩ ⟨Nat.le_of_ble_eq_true rfl, Nat.le_of_ble_eq_true rfl⟩
    · skip
      refine lv_iload_n hx hb dX3_checkTile_10 rfl (lv_at hl 1 rfl) ?_
      refine lv_if_lt (tgt := 20) hx hb dX3_checkTile_11 (by decide) (fun c11 => ?_) (fun c11 => ?_)
      · skip
        exact fz_xt X Y htab hfl hW hl (by decide +kernel) (by decide +kernel) xk_io xi_io xm_io xg_io (List.mem_of_getElem? (i := 0) rfl) (by unfold exT; rw [if_neg (fun h => h.2.2.1 c11)]) dX3_checkTile_20 dX3_checkTile_23 dX3_checkTile_24 dX3_checkTile_26 dX3_checkTile_29 (Nat.le_of_ble_eq_true rfl) (Nat.le_of_ble_eq_true rfl) ⟨Nat.le_of_ble_eq_true rfl, Nat.le_of_ble_eq_true rfl⟩ ⟨Nat.le_of_ble_eq_true rfl, Nat.le_of_ble_eq_true rfl⟩
      · skip
        refine lv_iload_n hx hb dX3_checkTile_14 rfl (lv_at hl 1 rfl) ?_
        refine lv_bipush (v := 6) hx hb dX3_checkTile_15 (by decide) ?_
        refine lv_icmp_lt (tgt := 30) hx hb dX3_checkTile_17 (by decide) (fun c17 => ?_) (fun c17 => ?_)
        · skip
          exact fz_xrv X (fz_cast (rfl) hW) (by unfold exT; exact if_pos ⟨c1, c7, c11, c17⟩) ⟨Nat.le_of_ble_eq_true rfl, Nat.le_of_ble_eq_true rfl⟩ dX3_checkTile_30
        · skip
          exact fz_xt X Y htab hfl hW hl (by decide +kernel) (by decide +kernel) xk_io xi_io xm_io xg_io (List.mem_of_getElem? (i := 0) rfl) (by unfold exT; rw [if_neg (fun h => c17 h.2.2.2)]) dX3_checkTile_20 dX3_checkTile_23 dX3_checkTile_24 dX3_checkTile_26 dX3_checkTile_29 (Nat.le_of_ble_eq_true rfl) (Nat.le_of_ble_eq_true rfl) ⟨Nat.le_of_ble_eq_true rfl, Nat.le_of_ble_eq_true rfl⟩ ⟨Nat.le_of_ble_eq_true rfl, Nat.le_of_ble_eq_true rfl⟩
set_option maxHeartbeats 4000000 in
set_option maxRecDepth 100000 in
theorem c_X3_checkBlock (l : Launch) (hfl : l.stackTraces = false) (g : GG) (x y w h : Int32) (ws : va_W) : fz_CX l g yX3_checkBlock cX3_checkBlock 4 none 7 2 12 111 [.int x, .int y, .int w, .int h] (ws) (ws) none (exB x y w h) := by
  refine fz_CX.of (by decide) (Nat.le_of_ble_eq_true rfl) ?_
  intro p e s m args below meth c A ls X Y htab hW hl
  have hx := X.1
  have hb := X.2.1
  have hl : lv_has ls 4 [(0, .int x), (1, .int y), (2, .int w), (3, .int h)] := hl
  have X : fz_X p s m meth c RX3 cX3_checkBlock 4 none g A := X
  have hW : fz_W g A s (ws) s.heap [] := hW
  refine lv_iload_n hx hb dX3_checkBlock_0 rfl (lv_at hl 0 rfl) ?_
  refine lv_iload_n hx hb dX3_checkBlock_1 rfl (lv_at hl 1 rfl) ?_
  refine fz_xc X Y htab hW (c_X3_checkTile l hfl g x y _) lk_X3_48 (fun E k => by
    unfold exT at k
    unfold exB
    rcases Classical.em (okT x y) with z | z
    · rw [if_pos z] at k; cases k
    · rw [if_neg z] at k; rw [if_neg (fun q => z q.1)]; exact k) rfl ⟨Nat.le_of_ble_eq_true rfl, Nat.le_of_ble_eq_true rfl⟩ hl rfl (Nat.le_of_ble_eq_true rfl) dX3_checkBlock_2 ⟨Nat.le_of_ble_eq_true rfl, Nat.le_of_ble_eq_true rfl⟩ ⟨Nat.le_of_ble_eq_true rfl, Nat.le_of_ble_eq_true rfl⟩ (fun H locs hx2 hW => ?_)
  have k0 : okT x y := ex_n hx2
  refine lv_iload_n hx hb dX3_checkBlock_5 rfl (lv_at hl 2 rfl) ?_
  refine lv_iconst (v := 1) hx hb dX3_checkBlock_6 (by decide) ?_
  refine lv_icmp_lt (tgt := 31) hx hb dX3_checkBlock_7 (by decide) (fun c7 => ?_) (fun c7 => ?_)
  · skip
    exact fz_xt X Y htab hfl hW hl (by decide +kernel) (by decide +kernel) xk_io xi_io xm_io xg_io (List.mem_of_getElem? (i := 1) rfl) (by unfold exB; rw [if_neg (fun k => k.2.1 c7)]) dX3_checkBlock_31 dX3_checkBlock_34 dX3_checkBlock_35 dX3_checkBlock_37 dX3_checkBlock_40 (Nat.le_of_ble_eq_true rfl) (Nat.le_of_ble_eq_true rfl) ⟨Nat.le_of_ble_eq_true rfl, Nat.le_of_ble_eq_true rfl⟩ ⟨Nat.le_of_ble_eq_true rfl, Nat.le_of_ble_eq_true rfl⟩
  · skip
    refine lv_iload_n hx hb dX3_checkBlock_10 rfl (lv_at hl 2 rfl) ?_
    refine lv_bipush (v := 8) hx hb dX3_checkBlock_11 (by decide) ?_
    refine lv_iload_n hx hb dX3_checkBlock_13 rfl (lv_at hl 0 rfl) ?_
    refine lv_isub hx hb dX3_checkBlock_14 ?_
    refine lv_icmp_gt (tgt := 31) hx hb dX3_checkBlock_15 (by decide) (fun c15 => ?_) (fun c15 => ?_)
    · skip
      exact fz_xt X Y htab hfl hW hl (by decide +kernel) (by decide +kernel) xk_io xi_io xm_io xg_io (List.mem_of_getElem? (i := 1) rfl) (by unfold exB; rw [if_neg (fun k => k.2.2.1 c15)]) dX3_checkBlock_31 dX3_checkBlock_34 dX3_checkBlock_35 dX3_checkBlock_37 dX3_checkBlock_40 (Nat.le_of_ble_eq_true rfl) (Nat.le_of_ble_eq_true rfl) ⟨Nat.le_of_ble_eq_true rfl, Nat.le_of_ble_eq_true rfl⟩ ⟨Nat.le_of_ble_eq_true rfl, Nat.le_of_ble_eq_true rfl⟩
    · skip
      refine lv_iload_n hx hb dX3_checkBlock_18 rfl (lv_at hl 3 rfl) ?_
      refine lv_iconst (v := 1) hx hb dX3_checkBlock_19 (by decide) ?_
      refine lv_icmp_lt (tgt := 31) hx hb dX3_checkBlock_20 (by decide) (fun c20 => ?_) (fun c20 => ?_)
      · skip
        exact fz_xt X Y htab hfl hW hl (by decide +kernel) (by decide +kernel) xk_io xi_io xm_io xg_io (List.mem_of_getElem? (i := 1) rfl) (by unfold exB; rw [if_neg (fun k => k.2.2.2.1 c20)]) dX3_checkBlock_31 dX3_checkBlock_34 dX3_checkBlock_35 dX3_checkBlock_37 dX3_checkBlock_40 (Nat.le_of_ble_eq_true rfl) (Nat.le_of_ble_eq_true rfl) ⟨Nat.le_of_ble_eq_true rfl, Nat.le_of_ble_eq_true rfl⟩ ⟨Nat.le_of_ble_eq_true rfl, Nat.le_of_ble_eq_true rfl⟩
      · skip
        refine lv_iload_n hx hb dX3_checkBlock_23 rfl (lv_at hl 3 rfl) ?_
        refine lv_bipush (v := 6) hx hb dX3_checkBlock_24 (by decide) ?_
        refine lv_iload_n hx hb dX3_checkBlock_26 rfl (lv_at hl 1 rfl) ?_
        refine lv_isub hx hb dX3_checkBlock_27 ?_
        refine lv_icmp_le (tgt := 41) hx hb dX3_checkBlock_28 (by decide) (fun c28 => ?_) (fun c28 => ?_)
        · skip
          exact fz_xrv X (fz_cast (rfl) hW) (by unfold exB; exact if_pos ⟨k0, c7, c15, c20, c28⟩) ⟨Nat.le_of_ble_eq_true rfl, Nat.le_of_ble_eq_true rfl⟩ dX3_checkBlock_41
        · skip
          exact fz_xt X Y htab hfl hW hl (by decide +kernel) (by decide +kernel) xk_io xi_io xm_io xg_io (List.mem_of_getElem? (i := 1) rfl) (by unfold exB; rw [if_neg (fun k => c28 k.2.2.2.2)]) dX3_checkBlock_31 dX3_checkBlock_34 dX3_checkBlock_35 dX3_checkBlock_37 dX3_checkBlock_40 (Nat.le_of_ble_eq_true rfl) (Nat.le_of_ble_eq_true rfl) ⟨Nat.le_of_ble_eq_true rfl, Nat.le_of_ble_eq_true rfl⟩ ⟨Nat.le_of_ble_eq_true rfl, Nat.le_of_ble_eq_true rfl⟩
set_option maxHeartbeats 4000000 in
set_option maxRecDepth 100000 in
theorem c_X3_checkBudget (l : Launch) (hfl : l.stackTraces = false) (g : GG) (b : Int32) (ws : va_W) : fz_CX l g yX3_checkBudget cX3_checkBudget 1 none 6 1 6 90 [.int b] (ws) (ws) none (exG b) := by
  refine fz_CX.of (by decide) (Nat.le_of_ble_eq_true rfl) ?_
  intro p e s m args below meth c A ls X Y htab hW hl
  have hx := X.1
  have hb := X.2.1
  have hl : lv_has ls 1 [(0, .int b)] := hl
  have X : fz_X p s m meth c RX3 cX3_checkBudget 1 none g A := X
  have hW : fz_W g A s (ws) s.heap [] := hW
  refine lv_iload_n hx hb dX3_checkBudget_0 rfl (lv_at hl 0 rfl) ?_
  refine lv_if_lt (tgt := 11) hx hb dX3_checkBudget_1 (by decide) (fun c1 => ?_) (fun c1 => ?_)
  · skip
    exact fz_xt X Y htab hfl hW hl (by decide +kernel) (by decide +kernel) xk_ia xi_ia xm_ia xg_ia (List.mem_of_getElem? (i := 4) rfl) (by unfold exG; rw [if_neg (fun h => h.1 c1)]) dX3_checkBudget_11 dX3_checkBudget_14 dX3_checkBudget_15 dX3_checkBudget_17 dX3_checkBudget_20 (Nat.le_of_ble_eq_true rfl) (Nat.le_of_ble_eq_true rfl) ⟨Nat.le_of_ble_eq_true rfl, Nat.le_of_ble_eq_true rfl⟩ ⟨Nat.le_of_ble_eq_true rfl, Nat.le_of_ble_eq_true rfl⟩
  · skip
    refine lv_iload_n hx hb dX3_checkBudget_4 rfl (lv_at hl 0 rfl) ?_
    refine lv_sipush (v := 300) hx hb dX3_checkBudget_5 (by decide) ?_
    refine lv_icmp_le (tgt := 21) hx hb dX3_checkBudget_8 (by decide) (fun c8 => ?_) (fun c8 => ?_)
    · skip
      exact fz_xrv X (fz_cast (rfl) hW) (by unfold exG; exact if_pos ⟨c1, c8⟩) ⟨Nat.le_of_ble_eq_true rfl, Nat.le_of_ble_eq_true rfl⟩ dX3_checkBudget_21
    · skip
      exact fz_xt X Y htab hfl hW hl (by decide +kernel) (by decide +kernel) xk_ia xi_ia xm_ia xg_ia (List.mem_of_getElem? (i := 4) rfl) (by unfold exG; rw [if_neg (fun h => c8 h.2)]) dX3_checkBudget_11 dX3_checkBudget_14 dX3_checkBudget_15 dX3_checkBudget_17 dX3_checkBudget_20 (Nat.le_of_ble_eq_true rfl) (Nat.le_of_ble_eq_true rfl) ⟨Nat.le_of_ble_eq_true rfl, Nat.le_of_ble_eq_true rfl⟩ ⟨Nat.le_of_ble_eq_true rfl, Nat.le_of_ble_eq_true rfl⟩
end
section
abbrev FW (g : GG) (f : Nat) (a b : Nat → Nat) (v u : SV) : va_W := (f, .inr (3, [.ref (a 0), .ref (b 0)])) :: (SW g a v ++ SW g b u)
set_option maxRecDepth 100000 in
theorem cf_paint (l : Launch) (g : GG) (f : Nat) (a b : Nat → Nat) (v u : SV) (x y wd hg : Nat) (pic : Int32) (h1 : x + wd ≤ 8) (h2 : y + hg ≤ 6) : fz_C l g yX2_paint cX2_paint 8 none 1 32 [.ref (a 0), .int (nI x), .int (nI y), .int (nI wd), .int (nI hg), .int pic] (FW g f a b v u) (FW g f a b (paV v x y wd hg pic) u) none := fz_C.fr (c_X2_paint l g a v x y wd hg pic h1 h2) [1, 2, 3, 4, 5, 6, 7, 8, 9, 10, 11, 12, 13, 14, 15, 16, 17] [0, 18, 19, 20, 21, 22, 23, 24, 25, 26, 27, 28, 29, 30, 31, 32, 33, 34] [0, 18, 19, 20, 21, 22, 23, 24, 25, 26, 27, 28, 29, 30, 31, 32, 33, 34, 1, 2, 3, 4, 5, 6, 7, 8, 9, 10, 11, 12, 13, 14, 15, 16, 17] rfl rfl rfl rfl (by decide) rfl rfl
set_option maxRecDepth 100000 in
theorem cf_countUnlike (l : Launch) (g : GG) (f : Nat) (a b : Nat → Nat) (v u : SV)  : fz_C l g yX2_countUnlike cX2_countUnlike 1 (some .int) 1 23 [.ref (a 0)] (FW g f a b v u) (FW g f a b v u) (some (.int (bcL (usF v 48)))) := fz_C.fr (c_X2_countUnlike l g a v) [1, 2, 3, 4, 5, 6, 7, 8, 9, 10, 11, 12, 13, 14, 15, 16, 17] [0, 18, 19, 20, 21, 22, 23, 24, 25, 26, 27, 28, 29, 30, 31, 32, 33, 34] [0, 18, 19, 20, 21, 22, 23, 24, 25, 26, 27, 28, 29, 30, 31, 32, 33, 34, 1, 2, 3, 4, 5, 6, 7, 8, 9, 10, 11, 12, 13, 14, 15, 16, 17] rfl rfl rfl rfl (by decide) rfl rfl
set_option maxRecDepth 100000 in
theorem cf_shift (l : Launch) (g : GG) (f : Nat) (a b : Nat → Nat) (v u : SV) (h : Nat → Nat) (hm : MOK h) (hwm : v.wm ≤ 4) : fz_C l g yX2_shift cX2_shift 8 none 2 56 [.ref (a 0), .int (nI (h 0)), .int (nI (h 1)), .int (nI (h 2)), .int (nI (h 3)), .int (nI (h 4)), .int (nI (h 5))] (FW g f a b v u) (FW g f a b (shV v h) u) none := fz_C.fr (c_X2_shift l g a v h hm hwm) [1, 2, 3, 4, 5, 6, 7, 8, 9, 10, 11, 12, 13, 14, 15, 16, 17] [0, 18, 19, 20, 21, 22, 23, 24, 25, 26, 27, 28, 29, 30, 31, 32, 33, 34] [0, 18, 19, 20, 21, 22, 23, 24, 25, 26, 27, 28, 29, 30, 31, 32, 33, 34, 1, 2, 3, 4, 5, 6, 7, 8, 9, 10, 11, 12, 13, 14, 15, 16, 17] rfl rfl rfl rfl (by decide) rfl rfl
set_option maxRecDepth 100000 in
theorem cf_passStep (l : Launch) (g : GG) (f : Nat) (a b : Nat → Nat) (v u : SV) (x : Int32) (hwm : v.wm ≤ 4) (hkc : v.kc ≤ 8) (hm : ∀ j, j < v.wm → MOK (v.mv j)) : fz_C l g yX2_passStep cX2_passStep 3 (some .int) 5 123 [.ref (a 0), .int x] (FW g f a b v u) (FW g f a b (psV v x) u) (some (.int (psA v x).1)) := fz_C.fr (c_X2_passStep l g a v x hwm hkc hm) [1, 2, 3, 4, 5, 6, 7, 8, 9, 10, 11, 12, 13, 14, 15, 16, 17] [0, 18, 19, 20, 21, 22, 23, 24, 25, 26, 27, 28, 29, 30, 31, 32, 33, 34] [0, 18, 19, 20, 21, 22, 23, 24, 25, 26, 27, 28, 29, 30, 31, 32, 33, 34, 1, 2, 3, 4, 5, 6, 7, 8, 9, 10, 11, 12, 13, 14, 15, 16, 17] rfl rfl rfl rfl (by decide) rfl rfl
set_option maxRecDepth 100000 in
theorem cf_kindOf (l : Launch) (g : GG) (f : Nat) (a b : Nat → Nat) (v u : SV) (t : Nat) (ht : t < 48) : fz_C l g yX2_kindOf cX2_kindOf 2 (some .int) 1 20 [.ref (a 0), .int (nI t)] (FW g f a b v u) (FW g f a b v u) (some (.int (kdI v t))) := fz_C.fr (c_X2_kindOf l g a v t ht) [1, 2, 3, 4, 5, 6, 7, 8, 9, 10, 11, 12, 13, 14, 15, 16, 17] [0, 18, 19, 20, 21, 22, 23, 24, 25, 26, 27, 28, 29, 30, 31, 32, 33, 34] [0, 18, 19, 20, 21, 22, 23, 24, 25, 26, 27, 28, 29, 30, 31, 32, 33, 34, 1, 2, 3, 4, 5, 6, 7, 8, 9, 10, 11, 12, 13, 14, 15, 16, 17] rfl rfl rfl rfl (by decide) rfl rfl
set_option maxRecDepth 100000 in
theorem cf_unlikeSet (l : Launch) (g : GG) (f : Nat) (a b : Nat → Nat) (v u : SV)  : fz_C l g yX2_unlikeSet cX2_unlikeSet 4 (some .long) 0 0 [.ref (a 0)] (FW g f a b v u) (FW g f a b v u) (some (.long (usF v 48))) := fz_C.fr (c_X2_unlikeSet l g a v) [1, 2, 3, 4, 5, 6, 7, 8, 9, 10, 11, 12, 13, 14, 15, 16, 17] [0, 18, 19, 20, 21, 22, 23, 24, 25, 26, 27, 28, 29, 30, 31, 32, 33, 34] [0, 18, 19, 20, 21, 22, 23, 24, 25, 26, 27, 28, 29, 30, 31, 32, 33, 34, 1, 2, 3, 4, 5, 6, 7, 8, 9, 10, 11, 12, 13, 14, 15, 16, 17] rfl rfl rfl rfl (by decide) rfl rfl
set_option maxRecDepth 100000 in
theorem cf_countRough (l : Launch) (g : GG) (f : Nat) (a b : Nat → Nat) (v u : SV)  : fz_C l g yX2_countRough cX2_countRough 3 (some .int) 0 0 [.ref (a 0)] (FW g f a b v u) (FW g f a b v u) (some (.int (crF v 48))) := fz_C.fr (c_X2_countRough l g a v) [1, 2, 3, 4, 5, 6, 7, 8, 9, 10, 11, 12, 13, 14, 15, 16, 17] [0, 18, 19, 20, 21, 22, 23, 24, 25, 26, 27, 28, 29, 30, 31, 32, 33, 34] [0, 18, 19, 20, 21, 22, 23, 24, 25, 26, 27, 28, 29, 30, 31, 32, 33, 34, 1, 2, 3, 4, 5, 6, 7, 8, 9, 10, 11, 12, 13, 14, 15, 16, 17] rfl rfl rfl rfl (by decide) rfl rfl
set_option maxRecDepth 100000 in
theorem cf_isAllSentB (l : Launch) (g : GG) (f : Nat) (a b : Nat → Nat) (v u : SV) (hwm : u.wm ≤ 4) : fz_C l g yX2_isAllSent cX2_isAllSent 1 (some .boolean) 1 23 [.ref (b 0)] (FW g f a b v u) (FW g f a b v u) (some (.int (alI u))) := fz_C.fr (c_X2_isAllSent l g b u hwm) [18, 19, 20, 21, 22, 23, 24, 25, 26, 27, 28, 29, 30, 31, 32, 33, 34] [0, 1, 2, 3, 4, 5, 6, 7, 8, 9, 10, 11, 12, 13, 14, 15, 16, 17] [0, 1, 2, 3, 4, 5, 6, 7, 8, 9, 10, 11, 12, 13, 14, 15, 16, 17, 18, 19, 20, 21, 22, 23, 24, 25, 26, 27, 28, 29, 30, 31, 32, 33, 34] rfl rfl rfl rfl (by decide) rfl rfl
set_option maxRecDepth 100000 in
theorem cf_hasFilmB (l : Launch) (g : GG) (f : Nat) (a b : Nat → Nat) (v u : SV)  : fz_C l g yX2_hasFilm cX2_hasFilm 2 (some .boolean) 2 41 [.ref (b 0)] (FW g f a b v u) (FW g f a b v u) (some (.int (hfF u 0 48))) := fz_C.fr (c_X2_hasFilm l g b u) [18, 19, 20, 21, 22, 23, 24, 25, 26, 27, 28, 29, 30, 31, 32, 33, 34] [0, 1, 2, 3, 4, 5, 6, 7, 8, 9, 10, 11, 12, 13, 14, 15, 16, 17] [0, 1, 2, 3, 4, 5, 6, 7, 8, 9, 10, 11, 12, 13, 14, 15, 16, 17, 18, 19, 20, 21, 22, 23, 24, 25, 26, 27, 28, 29, 30, 31, 32, 33, 34] rfl rfl rfl rfl (by decide) rfl rfl
set_option maxRecDepth 100000 in
theorem cf_passStepB (l : Launch) (g : GG) (f : Nat) (a b : Nat → Nat) (v u : SV) (x : Int32) (hwm : u.wm ≤ 4) (hkc : u.kc ≤ 8) (hm : ∀ j, j < u.wm → MOK (u.mv j)) : fz_C l g yX2_passStep cX2_passStep 3 (some .int) 5 123 [.ref (b 0), .int x] (FW g f a b v u) (FW g f a b v (psV u x)) (some (.int (psA u x).1)) := fz_C.fr (c_X2_passStep l g b u x hwm hkc hm) [18, 19, 20, 21, 22, 23, 24, 25, 26, 27, 28, 29, 30, 31, 32, 33, 34] [0, 1, 2, 3, 4, 5, 6, 7, 8, 9, 10, 11, 12, 13, 14, 15, 16, 17] [0, 1, 2, 3, 4, 5, 6, 7, 8, 9, 10, 11, 12, 13, 14, 15, 16, 17, 18, 19, 20, 21, 22, 23, 24, 25, 26, 27, 28, 29, 30, 31, 32, 33, 34] rfl rfl rfl rfl (by decide) rfl rfl
set_option maxRecDepth 100000 in
theorem cf_copyFrom (l : Launch) (g : GG) (f : Nat) (a b : Nat → Nat) (v u : SV) (hwm : v.wm ≤ 4) : fz_C l g yX2_copyFrom cX2_copyFrom 3 none 2 53 [.ref (b 0), .ref (a 0)] (FW g f a b v u) (FW g f a b v (coV u v)) none := fz_C.fr (c_X2_copyFrom l g b a u v hwm) [18, 19, 20, 21, 22, 23, 24, 25, 26, 27, 28, 29, 30, 31, 32, 33, 34, 1, 2, 3, 4, 5, 6, 7, 8, 9, 10, 11, 12, 13, 14, 15, 16, 17] [0] [0, 18, 19, 20, 21, 22, 23, 24, 25, 26, 27, 28, 29, 30, 31, 32, 33, 34, 1, 2, 3, 4, 5, 6, 7, 8, 9, 10, 11, 12, 13, 14, 15, 16, 17] rfl rfl rfl rfl (by decide) rfl rfl
end
section
set_option maxHeartbeats 4000000 in
set_option maxRecDepth 100000 in
theorem c_X3_near (l : Launch) (hfl : l.stackTraces = false) (g : GG) (f : Nat) (a b : Nat → Nat) (v u : SV) (x y : Int32) : fz_CX l g yX3_near cX3_near 3 (some .int) 7 1 6 111 [.ref f, .int x, .int y] (FW g f a b v u) (FW g f a b v u) (some (.int (v.near (tN x y)))) (exT x y) := by
  refine fz_CX.of (by decide) (Nat.le_of_ble_eq_true rfl) ?_
  intro p e s m args below meth c A ls X Y htab hW hl
  have hx := X.1
  have hb := X.2.1
  have hl : lv_has ls 3 [(0, .ref f), (1, .int x), (2, .int y)] := hl
  have X : fz_X p s m meth c RX3 cX3_near 3 (some .int) g A := X
  have hW : fz_W g A s (FW g f a b v u) s.heap [] := hW
  refine lv_iload_n hx hb dX3_near_0 rfl (lv_at hl 1 rfl) ?_
  refine lv_iload_n hx hb dX3_near_1 rfl (lv_at hl 2 rfl) ?_
  refine fz_xc X Y htab hW (c_X3_checkTile l hfl g x y _) lk_X3_48 (fun E k => k) rfl ⟨Nat.le_of_ble_eq_true rfl, Nat.le_of_ble_eq_true rfl⟩ hl rfl (Nat.le_of_ble_eq_true rfl) dX3_near_2 ⟨Nat.le_of_ble_eq_true rfl, Nat.le_of_ble_eq_true rfl⟩ ⟨Nat.le_of_ble_eq_true rfl, Nat.le_of_ble_eq_true rfl⟩ (fun H locs hx2 hW => ?_)
  obtain ⟨i, j, ex1, ey1, hi8, hj6, etn⟩ := okT_nat (ex_n hx2)
  have hnone := hx2
  refine lv_aload_n hx hb dX3_near_5 rfl (lv_at hl 0 rfl) ?_
  refine gf_X3_10 X hW 0 rfl rfl dX3_near_6 ?_
  refine gf_X3_70 X hW 1 rfl rfl dX3_near_9 ?_
  refine lv_iload_n hx hb dX3_near_12 rfl (lv_at hl 1 rfl) ?_
  refine lv_iload_n hx hb dX3_near_13 rfl (lv_at hl 2 rfl) ?_
  refine fz_cSi X hW (c_X3_tileAt l g _ _ _) lk_X3_55 rfl ⟨Nat.le_of_ble_eq_true rfl, Nat.le_of_ble_eq_true rfl⟩ hl rfl (Nat.le_of_ble_eq_true rfl) dX3_near_14 ⟨Nat.le_of_ble_eq_true rfl, Nat.le_of_ble_eq_true rfl⟩ (fun H locs hW => ?_)
  refine fz_il X hW 2 (8 * j + i) rfl (by rw [ex1, ey1]; exact fz_tl _ _) (by omega) (by decide) dX3_near_17 ?_
  exact fz_xri X (fz_cast (rfl) hW) (hnone) (by rw [etn]) ⟨Nat.le_of_ble_eq_true rfl, Nat.le_of_ble_eq_true rfl⟩ dX3_near_18
set_option maxHeartbeats 4000000 in
set_option maxRecDepth 100000 in
theorem c_X3_far (l : Launch) (hfl : l.stackTraces = false) (g : GG) (f : Nat) (a b : Nat → Nat) (v u : SV) (x y : Int32) : fz_CX l g yX3_far cX3_far 3 (some .int) 7 1 6 111 [.ref f, .int x, .int y] (FW g f a b v u) (FW g f a b v u) (some (.int (v.far (tN x y)))) (exT x y) := by
  refine fz_CX.of (by decide) (Nat.le_of_ble_eq_true rfl) ?_
  intro p e s m args below meth c A ls X Y htab hW hl
  have hx := X.1
  have hb := X.2.1
  have hl : lv_has ls 3 [(0, .ref f), (1, .int x), (2, .int y)] := hl
  have X : fz_X p s m meth c RX3 cX3_far 3 (some .int) g A := X
  have hW : fz_W g A s (FW g f a b v u) s.heap [] := hW
  refine lv_iload_n hx hb dX3_far_0 rfl (lv_at hl 1 rfl) ?_
  refine lv_iload_n hx hb dX3_far_1 rfl (lv_at hl 2 rfl) ?_
  refine fz_xc X Y htab hW (c_X3_checkTile l hfl g x y _) lk_X3_48 (fun E k => k) rfl ⟨Nat.le_of_ble_eq_true rfl, Nat.le_of_ble_eq_true rfl⟩ hl rfl (Nat.le_of_ble_eq_true rfl) dX3_far_2 ⟨Nat.le_of_ble_eq_true rfl, Nat.le_of_ble_eq_true rfl⟩ ⟨Nat.le_of_ble_eq_true rfl, Nat.le_of_ble_eq_true rfl⟩ (fun H locs hx2 hW => ?_)
  obtain ⟨i, j, ex1, ey1, hi8, hj6, etn⟩ := okT_nat (ex_n hx2)
  have hnone := hx2
  refine lv_aload_n hx hb dX3_far_5 rfl (lv_at hl 0 rfl) ?_
  refine gf_X3_10 X hW 0 rfl rfl dX3_far_6 ?_
  refine gf_X3_74 X hW 1 rfl rfl dX3_far_9 ?_
  refine lv_iload_n hx hb dX3_far_12 rfl (lv_at hl 1 rfl) ?_
  refine lv_iload_n hx hb dX3_far_13 rfl (lv_at hl 2 rfl) ?_
  refine fz_cSi X hW (c_X3_tileAt l g _ _ _) lk_X3_55 rfl ⟨Nat.le_of_ble_eq_true rfl, Nat.le_of_ble_eq_true rfl⟩ hl rfl (Nat.le_of_ble_eq_true rfl) dX3_far_14 ⟨Nat.le_of_ble_eq_true rfl, Nat.le_of_ble_eq_true rfl⟩ (fun H locs hW => ?_)
  refine fz_il X hW 3 (8 * j + i) rfl (by rw [ex1, ey1]; exact fz_tl _ _) (by omega) (by decide) dX3_far_17 ?_
  exact fz_xri X (fz_cast (rfl) hW) (hnone) (by rw [etn]) ⟨Nat.le_of_ble_eq_true rfl, Nat.le_of_ble_eq_true rfl⟩ dX3_far_18
set_option maxHeartbeats 4000000 in
set_option maxRecDepth 100000 in
theorem c_X3_since (l : Launch) (hfl : l.stackTraces = false) (g : GG) (f : Nat) (a b : Nat → Nat) (v u : SV) (x y : Int32) : fz_CX l g yX3_since cX3_since 3 (some .int) 7 1 6 111 [.ref f, .int x, .int y] (FW g f a b v u) (FW g f a b v u) (some (.int (v.since (tN x y)))) (exT x y) := by
  refine fz_CX.of (by decide) (Nat.le_of_ble_eq_true rfl) ?_
  intro p e s m args below meth c A ls X Y htab hW hl
  have hx := X.1
  have hb := X.2.1
  have hl : lv_has ls 3 [(0, .ref f), (1, .int x), (2, .int y)] := hl
  have X : fz_X p s m meth c RX3 cX3_since 3 (some .int) g A := X
  have hW : fz_W g A s (FW g f a b v u) s.heap [] := hW
  refine lv_iload_n hx hb dX3_since_0 rfl (lv_at hl 1 rfl) ?_
  refine lv_iload_n hx hb dX3_since_1 rfl (lv_at hl 2 rfl) ?_
  refine fz_xc X Y htab hW (c_X3_checkTile l hfl g x y _) lk_X3_48 (fun E k => k) rfl ⟨Nat.le_of_ble_eq_true rfl, Nat.le_of_ble_eq_true rfl⟩ hl rfl (Nat.le_of_ble_eq_true rfl) dX3_since_2 ⟨Nat.le_of_ble_eq_true rfl, Nat.le_of_ble_eq_true rfl⟩ ⟨Nat.le_of_ble_eq_true rfl, Nat.le_of_ble_eq_true rfl⟩ (fun H locs hx2 hW => ?_)
  obtain ⟨i, j, ex1, ey1, hi8, hj6, etn⟩ := okT_nat (ex_n hx2)
  have hnone := hx2
  refine lv_aload_n hx hb dX3_since_5 rfl (lv_at hl 0 rfl) ?_
  refine gf_X3_10 X hW 0 rfl rfl dX3_since_6 ?_
  refine gf_X3_80 X hW 1 rfl rfl dX3_since_9 ?_
  refine lv_iload_n hx hb dX3_since_12 rfl (lv_at hl 1 rfl) ?_
  refine lv_iload_n hx hb dX3_since_13 rfl (lv_at hl 2 rfl) ?_
  refine fz_cSi X hW (c_X3_tileAt l g _ _ _) lk_X3_55 rfl ⟨Nat.le_of_ble_eq_true rfl, Nat.le_of_ble_eq_true rfl⟩ hl rfl (Nat.le_of_ble_eq_true rfl) dX3_since_14 ⟨Nat.le_of_ble_eq_true rfl, Nat.le_of_ble_eq_true rfl⟩ (fun H locs hW => ?_)
  refine fz_il X hW 4 (8 * j + i) rfl (by rw [ex1, ey1]; exact fz_tl _ _) (by omega) (by decide) dX3_since_17 ?_
  exact fz_xri X (fz_cast (rfl) hW) (hnone) (by rw [etn]) ⟨Nat.le_of_ble_eq_true rfl, Nat.le_of_ble_eq_true rfl⟩ dX3_since_18
set_option maxHeartbeats 4000000 in
set_option maxRecDepth 100000 in
theorem c_X3_kind (l : Launch) (hfl : l.stackTraces = false) (g : GG) (f : Nat) (a b : Nat → Nat) (v u : SV) (x y : Int32) : fz_CX l g yX3_kind cX3_kind 3 (some .int) 7 1 6 111 [.ref f, .int x, .int y] (FW g f a b v u) (FW g f a b v u) (some (.int (kdI v (tN x y)))) (exT x y) := by
  refine fz_CX.of (by decide) (Nat.le_of_ble_eq_true rfl) ?_
  intro p e s m args below meth c A ls X Y htab hW hl
  have hx := X.1
  have hb := X.2.1
  have hl : lv_has ls 3 [(0, .ref f), (1, .int x), (2, .int y)] := hl
  have X : fz_X p s m meth c RX3 cX3_kind 3 (some .int) g A := X
  have hW : fz_W g A s (FW g f a b v u) s.heap [] := hW
  refine lv_iload_n hx hb dX3_kind_0 rfl (lv_at hl 1 rfl) ?_
  refine lv_iload_n hx hb dX3_kind_1 rfl (lv_at hl 2 rfl) ?_
  refine fz_xc X Y htab hW (c_X3_checkTile l hfl g x y _) lk_X3_48 (fun E k => k) rfl ⟨Nat.le_of_ble_eq_true rfl, Nat.le_of_ble_eq_true rfl⟩ hl rfl (Nat.le_of_ble_eq_true rfl) dX3_kind_2 ⟨Nat.le_of_ble_eq_true rfl, Nat.le_of_ble_eq_true rfl⟩ ⟨Nat.le_of_ble_eq_true rfl, Nat.le_of_ble_eq_true rfl⟩ (fun H locs hx2 hW => ?_)
  obtain ⟨i, j, ex1, ey1, hi8, hj6, etn⟩ := okT_nat (ex_n hx2)
  have hnone := hx2
  refine lv_aload_n hx hb dX3_kind_5 rfl (lv_at hl 0 rfl) ?_
  refine gf_X3_10 X hW 0 rfl rfl dX3_kind_6 ?_
  refine lv_iload_n hx hb dX3_kind_9 rfl (lv_at hl 1 rfl) ?_
  refine lv_iload_n hx hb dX3_kind_10 rfl (lv_at hl 2 rfl) ?_
  refine fz_cSi X hW (c_X3_tileAt l g _ _ _) lk_X3_55 rfl ⟨Nat.le_of_ble_eq_true rfl, Nat.le_of_ble_eq_true rfl⟩ hl rfl (Nat.le_of_ble_eq_true rfl) dX3_kind_11 ⟨Nat.le_of_ble_eq_true rfl, Nat.le_of_ble_eq_true rfl⟩ (fun H locs hW => ?_)
  refine fz_top (x' := nI (8 * j + i)) (by rw [ex1, ey1]; exact fz_tl _ _) ?_
  refine fz_cVi X hW (cf_kindOf l g f a b v u (8 * j + i) (by omega)) lk_X3_77 (ci := 2) (q0 := 1) rfl rfl rfl rfl ⟨Nat.le_of_ble_eq_true rfl, Nat.le_of_ble_eq_true rfl⟩ hl rfl (Nat.le_of_ble_eq_true rfl) dX3_kind_14 ⟨Nat.le_of_ble_eq_true rfl, Nat.le_of_ble_eq_true rfl⟩ (fun H locs hW => ?_)
  exact fz_xri X (fz_cast (rfl) hW) (hnone) (by rw [etn]) ⟨Nat.le_of_ble_eq_true rfl, Nat.le_of_ble_eq_true rfl⟩ dX3_kind_17
set_option maxHeartbeats 4000000 in
set_option maxRecDepth 100000 in
theorem c_X3_look (l : Launch) (hfl : l.stackTraces = false) (g : GG) (f : Nat) (a b : Nat → Nat) (v u : SV) (x y : Int32) : fz_CX l g yX3_look cX3_look 4 (some .int) 7 1 6 111 [.ref f, .int x, .int y] (FW g f a b v u) (FW g f a b (v.laS (tN x y)) u) (some (.int (nI v.la))) (exT x y) := by
  refine fz_CX.of (by decide) (Nat.le_of_ble_eq_true rfl) ?_
  intro p e s m args below meth c A ls X Y htab hW hl
  have hx := X.1
  have hb := X.2.1
  have hl : lv_has ls 4 [(0, .ref f), (1, .int x), (2, .int y)] := hl
  have X : fz_X p s m meth c RX3 cX3_look 4 (some .int) g A := X
  have hW : fz_W g A s (FW g f a b v u) s.heap [] := hW
  refine lv_iload_n hx hb dX3_look_0 rfl (lv_at hl 1 rfl) ?_
  refine lv_iload_n hx hb dX3_look_1 rfl (lv_at hl 2 rfl) ?_
  refine fz_xc X Y htab hW (c_X3_checkTile l hfl g x y _) lk_X3_48 (fun E k => k) rfl ⟨Nat.le_of_ble_eq_true rfl, Nat.le_of_ble_eq_true rfl⟩ hl rfl (Nat.le_of_ble_eq_true rfl) dX3_look_2 ⟨Nat.le_of_ble_eq_true rfl, Nat.le_of_ble_eq_true rfl⟩ ⟨Nat.le_of_ble_eq_true rfl, Nat.le_of_ble_eq_true rfl⟩ (fun H locs hx2 hW => ?_)
  obtain ⟨i, j, ex1, ey1, hi8, hj6, etn⟩ := okT_nat (ex_n hx2)
  have hnone := hx2
  refine lv_aload_n hx hb dX3_look_5 rfl (lv_at hl 0 rfl) ?_
  refine gf_X3_10 X hW 0 rfl rfl dX3_look_6 ?_
  refine gf_X3_52 X hW 1 rfl rfl dX3_look_9 ?_
  refine lv_istore_n (lv' := [(3, .int (nI v.la)), (0, .ref f), (1, .int x), (2, .int y)]) hx hb dX3_look_12 rfl hl (by decide) rfl (fun ls hl => ?_)
  refine lv_aload_n hx hb dX3_look_13 rfl (lv_at hl 1 rfl) ?_
  refine gf_X3_10 X hW 0 rfl rfl dX3_look_14 ?_
  refine lv_iload_n hx hb dX3_look_17 rfl (lv_at hl 2 rfl) ?_
  refine lv_iload_n hx hb dX3_look_18 rfl (lv_at hl 3 rfl) ?_
  refine fz_cSi X hW (c_X3_tileAt l g _ _ _) lk_X3_55 rfl ⟨Nat.le_of_ble_eq_true rfl, Nat.le_of_ble_eq_true rfl⟩ hl rfl (Nat.le_of_ble_eq_true rfl) dX3_look_19 ⟨Nat.le_of_ble_eq_true rfl, Nat.le_of_ble_eq_true rfl⟩ (fun H locs hW => ?_)
  refine fz_top (x' := nI (tN x y)) (by rw [etn, ex1, ey1]; exact fz_tl _ _) ?_
  refine pf_X3_52 X hW 1 rfl (Nat.le_of_ble_eq_true rfl) dX3_look_22 (fun H locs hW => ?_)
  refine lv_iload_n hx hb dX3_look_25 rfl (lv_at hl 0 rfl) ?_
  exact fz_xri X (fz_cast (rfl) hW) (hnone) (rfl) ⟨Nat.le_of_ble_eq_true rfl, Nat.le_of_ble_eq_true rfl⟩ dX3_look_26
set_option maxHeartbeats 4000000 in
set_option maxRecDepth 100000 in
theorem c_X3_step (l : Launch) (hfl : l.stackTraces = false) (g : GG) (f : Nat) (a b : Nat → Nat) (v u : SV) (x : Int32) (hwm : v.wm ≤ 4) (hkc : v.kc ≤ 8) (hm : ∀ j, j < v.wm → MOK (v.mv j)) : fz_CX l g yX3_step cX3_step 2 (some .int) 7 1 6 145 [.ref f, .int x] (FW g f a b v u) (FW g f a b (psV v x) u) (some (.int (psA v x).1)) (exG x) := by
  refine fz_CX.of (by decide) (Nat.le_of_ble_eq_true rfl) ?_
  intro p e s m args below meth c A ls X Y htab hW hl
  have hx := X.1
  have hb := X.2.1
  have hl : lv_has ls 2 [(0, .ref f), (1, .int x)] := hl
  have X : fz_X p s m meth c RX3 cX3_step 2 (some .int) g A := X
  have hW : fz_W g A s (FW g f a b v u) s.heap [] := hW
  refine lv_iload_n hx hb dX3_step_0 rfl (lv_at hl 1 rfl) ?_
  refine fz_xc X Y htab hW (c_X3_checkBudget l hfl g x _) lk_X3_59 (fun E k => k) rfl ⟨Nat.le_of_ble_eq_true rfl, Nat.le_of_ble_eq_true rfl⟩ hl rfl (Nat.le_of_ble_eq_true rfl) dX3_step_1 ⟨Nat.le_of_ble_eq_true rfl, Nat.le_of_ble_eq_true rfl⟩ ⟨Nat.le_of_ble_eq_true rfl, Nat.le_of_ble_eq_true rfl⟩ (fun H locs hx1 hW => ?_)
  have hnone := hx1
  refine lv_aload_n hx hb dX3_step_4 rfl (lv_at hl 0 rfl) ?_
  refine gf_X3_10 X hW 0 rfl rfl dX3_step_5 ?_
  refine lv_iload_n hx hb dX3_step_8 rfl (lv_at hl 1 rfl) ?_
  refine fz_cVi X hW (cf_passStep l g f a b v u x hwm hkc hm) lk_X3_63 (ci := 2) (q0 := 1) rfl rfl rfl rfl ⟨Nat.le_of_ble_eq_true rfl, Nat.le_of_ble_eq_true rfl⟩ hl rfl (Nat.le_of_ble_eq_true rfl) dX3_step_9 ⟨Nat.le_of_ble_eq_true rfl, Nat.le_of_ble_eq_true rfl⟩ (fun H locs hW => ?_)
  exact fz_xri X (fz_cast (rfl) hW) (hnone) (rfl) ⟨Nat.le_of_ble_eq_true rfl, Nat.le_of_ble_eq_true rfl⟩ dX3_step_12
set_option maxHeartbeats 4000000 in
set_option maxRecDepth 100000 in
theorem c_X3_time (l : Launch) (g : GG) (f : Nat) (a b : Nat → Nat) (v u : SV) : fz_C l g yX3_time cX3_time 1 (some .int) 0 0 [.ref f] (FW g f a b v u) (FW g f a b v u) (some (.int v.now)) := by
  refine fz_C.of (by decide) (Nat.le_of_ble_eq_true rfl) ?_
  intro p e s m args below meth c A ls X hW hl
  have hx := X.1
  have hb := X.2.1
  have hl : lv_has ls 1 [(0, .ref f)] := hl
  have X : fz_X p s m meth c RX3 cX3_time 1 (some .int) g A := X
  have hW : fz_W g A s (FW g f a b v u) s.heap [] := hW
  refine lv_aload_n hx hb dX3_time_0 rfl (lv_at hl 0 rfl) ?_
  refine gf_X3_10 X hW 0 rfl rfl dX3_time_1 ?_
  refine gf_X3_67 X hW 1 rfl rfl dX3_time_4 ?_
  exact fz_ri X (fz_cast (rfl) hW) (rfl) dX3_time_7
set_option maxHeartbeats 4000000 in
set_option maxRecDepth 100000 in
theorem c_X3_unlike (l : Launch) (g : GG) (f : Nat) (a b : Nat → Nat) (v u : SV) : fz_C l g yX3_unlike cX3_unlike 1 (some .long) 1 23 [.ref f] (FW g f a b v u) (FW g f a b v u) (some (.long (usF v 48))) := by
  refine fz_C.of (by decide) (Nat.le_of_ble_eq_true rfl) ?_
  intro p e s m args below meth c A ls X hW hl
  have hx := X.1
  have hb := X.2.1
  have hl : lv_has ls 1 [(0, .ref f)] := hl
  have X : fz_X p s m meth c RX3 cX3_unlike 1 (some .long) g A := X
  have hW : fz_W g A s (FW g f a b v u) s.heap [] := hW
  refine lv_aload_n hx hb dX3_unlike_0 rfl (lv_at hl 0 rfl) ?_
  refine gf_X3_10 X hW 0 rfl rfl dX3_unlike_1 ?_
  refine fz_cVl X hW (cf_unlikeSet l g f a b v u) lk_X3_83 (ci := 2) (q0 := 1) rfl rfl rfl rfl ⟨Nat.le_of_ble_eq_true rfl, Nat.le_of_ble_eq_true rfl⟩ hl rfl (Nat.le_of_ble_eq_true rfl) dX3_unlike_4 ⟨Nat.le_refl _, Nat.le_refl _⟩ (fun H locs hW => ?_)
  exact fz_rl X (fz_cast (rfl) hW) (rfl) dX3_unlike_7
set_option maxHeartbeats 4000000 in
set_option maxRecDepth 100000 in
theorem c_X3_rough (l : Launch) (g : GG) (f : Nat) (a b : Nat → Nat) (v u : SV) : fz_C l g yX3_rough cX3_rough 1 (some .int) 1 22 [.ref f] (FW g f a b v u) (FW g f a b v u) (some (.int (crF v 48))) := by
  refine fz_C.of (by decide) (Nat.le_of_ble_eq_true rfl) ?_
  intro p e s m args below meth c A ls X hW hl
  have hx := X.1
  have hb := X.2.1
  have hl : lv_has ls 1 [(0, .ref f)] := hl
  have X : fz_X p s m meth c RX3 cX3_rough 1 (some .int) g A := X
  have hW : fz_W g A s (FW g f a b v u) s.heap [] := hW
  refine lv_aload_n hx hb dX3_rough_0 rfl (lv_at hl 0 rfl) ?_
  refine gf_X3_10 X hW 0 rfl rfl dX3_rough_1 ?_
  refine fz_cVi X hW (cf_countRough l g f a b v u) lk_X3_87 (ci := 2) (q0 := 1) rfl rfl rfl rfl ⟨Nat.le_of_ble_eq_true rfl, Nat.le_of_ble_eq_true rfl⟩ hl rfl (Nat.le_of_ble_eq_true rfl) dX3_rough_4 ⟨Nat.le_refl _, Nat.le_refl _⟩ (fun H locs hW => ?_)
  exact fz_ri X (fz_cast (rfl) hW) (rfl) dX3_rough_7
set_option maxHeartbeats 4000000 in
set_option maxRecDepth 100000 in
theorem c_X3_waiting (l : Launch) (g : GG) (f : Nat) (a b : Nat → Nat) (v u : SV) : fz_C l g yX3_waiting cX3_waiting 1 (some .int) 0 0 [.ref f] (FW g f a b v u) (FW g f a b v u) (some (.int (nI v.wm))) := by
  refine fz_C.of (by decide) (Nat.le_of_ble_eq_true rfl) ?_
  intro p e s m args below meth c A ls X hW hl
  have hx := X.1
  have hb := X.2.1
  have hl : lv_has ls 1 [(0, .ref f)] := hl
  have X : fz_X p s m meth c RX3 cX3_waiting 1 (some .int) g A := X
  have hW : fz_W g A s (FW g f a b v u) s.heap [] := hW
  refine lv_aload_n hx hb dX3_waiting_0 rfl (lv_at hl 0 rfl) ?_
  refine gf_X3_10 X hW 0 rfl rfl dX3_waiting_1 ?_
  refine gf_X3_44 X hW 1 rfl rfl dX3_waiting_4 ?_
  exact fz_ri X (fz_cast (rfl) hW) (rfl) dX3_waiting_7
set_option maxHeartbeats 4000000 in
set_option maxRecDepth 100000 in
theorem c_X3_knownPictures (l : Launch) (g : GG) (f : Nat) (a b : Nat → Nat) (v u : SV) : fz_C l g yX3_knownPictures cX3_knownPictures 1 (some .int) 0 0 [.ref f] (FW g f a b v u) (FW g f a b v u) (some (.int (nI v.kc))) := by
  refine fz_C.of (by decide) (Nat.le_of_ble_eq_true rfl) ?_
  intro p e s m args below meth c A ls X hW hl
  have hx := X.1
  have hb := X.2.1
  have hl : lv_has ls 1 [(0, .ref f)] := hl
  have X : fz_X p s m meth c RX3 cX3_knownPictures 1 (some .int) g A := X
  have hW : fz_W g A s (FW g f a b v u) s.heap [] := hW
  refine lv_aload_n hx hb dX3_knownPictures_0 rfl (lv_at hl 0 rfl) ?_
  refine gf_X3_10 X hW 0 rfl rfl dX3_knownPictures_1 ?_
  refine gf_X3_90 X hW 1 rfl rfl dX3_knownPictures_4 ?_
  refine gf_X3_94 X hW 10 rfl rfl dX3_knownPictures_7 ?_
  exact fz_ri X (fz_cast (rfl) hW) (rfl) dX3_knownPictures_10
set_option maxHeartbeats 4000000 in
set_option maxRecDepth 100000 in
theorem c_X3_used (l : Launch) (g : GG) (f : Nat) (a b : Nat → Nat) (v u : SV) : fz_C l g yX3_used cX3_used 1 (some .int) 0 0 [.ref f] (FW g f a b v u) (FW g f a b v u) (some (.int v.us)) := by
  refine fz_C.of (by decide) (Nat.le_of_ble_eq_true rfl) ?_
  intro p e s m args below meth c A ls X hW hl
  have hx := X.1
  have hb := X.2.1
  have hl : lv_has ls 1 [(0, .ref f)] := hl
  have X : fz_X p s m meth c RX3 cX3_used 1 (some .int) g A := X
  have hW : fz_W g A s (FW g f a b v u) s.heap [] := hW
  refine lv_aload_n hx hb dX3_used_0 rfl (lv_at hl 0 rfl) ?_
  refine gf_X3_10 X hW 0 rfl rfl dX3_used_1 ?_
  refine gf_X3_112 X hW 1 rfl rfl dX3_used_4 ?_
  exact fz_ri X (fz_cast (rfl) hW) (rfl) dX3_used_7
set_option maxHeartbeats 4000000 in
set_option maxRecDepth 100000 in
theorem c_X3_known (l : Launch) (hfl : l.stackTraces = false) (g : GG) (f : Nat) (a b : Nat → Nat) (v u : SV) (x : Int32) (hkc : v.kc ≤ 8) : fz_CX l g yX3_known cX3_known 2 (some .int) 6 1 6 90 [.ref f, .int x] (FW g f a b v u) (FW g f a b v u) (some (.int (v.kp x.toNatClampNeg))) (exK v.kc x) := by
  refine fz_CX.of (by decide) (Nat.le_of_ble_eq_true rfl) ?_
  intro p e s m args below meth c A ls X Y htab hW hl
  have hx := X.1
  have hb := X.2.1
  have hl : lv_has ls 2 [(0, .ref f), (1, .int x)] := hl
  have X : fz_X p s m meth c RX3 cX3_known 2 (some .int) g A := X
  have hW : fz_W g A s (FW g f a b v u) s.heap [] := hW
  refine lv_iload_n hx hb dX3_known_0 rfl (lv_at hl 1 rfl) ?_
  refine lv_if_lt (tgt := 18) hx hb dX3_known_1 (by decide) (fun c1 => ?_) (fun c1 => ?_)
  · skip
    exact fz_xt X Y htab hfl hW hl (by decide +kernel) (by decide +kernel) xk_io xi_io xm_io xg_io (List.mem_of_getElem? (i := 5) rfl) (by unfold exK; rw [if_neg (fun h => h.1 c1)]) dX3_known_18 dX3_known_21 dX3_known_22 dX3_known_24 dX3_known_27 (Nat.le_of_ble_eq_true rfl) (Nat.le_of_ble_eq_true rfl) ⟨Nat.le_of_ble_eq_true rfl, Nat.le_of_ble_eq_true rfl⟩ ⟨Nat.le_of_ble_eq_true rfl, Nat.le_of_ble_eq_true rfl⟩
  · skip
    refine lv_iload_n hx hb dX3_known_4 rfl (lv_at hl 1 rfl) ?_
    refine lv_aload_n hx hb dX3_known_5 rfl (lv_at hl 0 rfl) ?_
    refine gf_X3_10 X hW 0 rfl rfl dX3_known_6 ?_
    refine gf_X3_90 X hW 1 rfl rfl dX3_known_9 ?_
    refine gf_X3_94 X hW 10 rfl rfl dX3_known_12 ?_
    refine lv_icmp_lt (tgt := 28) hx hb dX3_known_15 (by decide) (fun c15 => ?_) (fun c15 => ?_)
    · skip
      obtain ⟨i, hi, ei⟩ := nI_of c1
      have hi8 : i < v.kc := (nI_ltI (a := i) (b := v.kc) hi (by omega)).mp (by rw [← ei]; exact c15)
      refine lv_aload_n hx hb dX3_known_28 rfl (lv_at hl 0 rfl) ?_
      refine gf_X3_10 X hW 0 rfl rfl dX3_known_29 ?_
      refine gf_X3_90 X hW 1 rfl rfl dX3_known_32 ?_
      refine gf_X3_104 X hW 10 rfl rfl dX3_known_35 ?_
      refine lv_iload_n hx hb dX3_known_38 rfl (lv_at hl 1 rfl) ?_
      refine fz_il X hW 11 (i) rfl ei (by omega) (by decide) dX3_known_39 ?_
      exact fz_xri X (fz_cast (rfl) hW) (by unfold exK; exact if_pos ⟨c1, c15⟩) (by rw [ei, nI_clamp hi]) ⟨Nat.le_of_ble_eq_true rfl, Nat.le_of_ble_eq_true rfl⟩ dX3_known_40
    · skip
      exact fz_xt X Y htab hfl hW hl (by decide +kernel) (by decide +kernel) xk_io xi_io xm_io xg_io (List.mem_of_getElem? (i := 5) rfl) (by unfold exK; rw [if_neg (fun h => c15 h.2)]) dX3_known_18 dX3_known_21 dX3_known_22 dX3_known_24 dX3_known_27 (Nat.le_of_ble_eq_true rfl) (Nat.le_of_ble_eq_true rfl) ⟨Nat.le_of_ble_eq_true rfl, Nat.le_of_ble_eq_true rfl⟩ ⟨Nat.le_of_ble_eq_true rfl, Nat.le_of_ble_eq_true rfl⟩
set_option maxHeartbeats 4000000 in
set_option maxRecDepth 100000 in
theorem c_X3_sent (l : Launch) (hfl : l.stackTraces = false) (g : GG) (f : Nat) (a b : Nat → Nat) (v u : SV) (x : Int32) : fz_CX l g yX3_sent cX3_sent 2 (some .int) 6 1 6 90 [.ref f, .int x] (FW g f a b v u) (FW g f a b v u) (some (.int (v.sc x.toNatClampNeg))) (exS x) := by
  refine fz_CX.of (by decide) (Nat.le_of_ble_eq_true rfl) ?_
  intro p e s m args below meth c A ls X Y htab hW hl
  have hx := X.1
  have hb := X.2.1
  have hl : lv_has ls 2 [(0, .ref f), (1, .int x)] := hl
  have X : fz_X p s m meth c RX3 cX3_sent 2 (some .int) g A := X
  have hW : fz_W g A s (FW g f a b v u) s.heap [] := hW
  refine lv_iload_n hx hb dX3_sent_0 rfl (lv_at hl 1 rfl) ?_
  refine lv_if_lt (tgt := 9) hx hb dX3_sent_1 (by decide) (fun c1 => ?_) (fun c1 => ?_)
  · skip
    exact fz_xt X Y htab hfl hW hl (by decide +kernel) (by decide +kernel) xk_ia xi_ia xm_ia xg_ia (List.mem_of_getElem? (i := 6) rfl) (by unfold exS; rw [if_neg (fun h => h.1 c1)]) dX3_sent_9 dX3_sent_12 dX3_sent_13 dX3_sent_15 dX3_sent_18 (Nat.le_of_ble_eq_true rfl) (Nat.le_of_ble_eq_true rfl) ⟨Nat.le_of_ble_eq_true rfl, Nat.le_of_ble_eq_true rfl⟩ ⟨Nat.le_of_ble_eq_true rfl, Nat.le_of_ble_eq_true rfl⟩
  · skip
    refine lv_iload_n hx hb dX3_sent_4 rfl (lv_at hl 1 rfl) ?_
    refine lv_iconst (v := 4) hx hb dX3_sent_5 (by decide) ?_
    refine lv_icmp_lt (tgt := 19) hx hb dX3_sent_6 (by decide) (fun c6 => ?_) (fun c6 => ?_)
    · skip
      obtain ⟨i, hi, ei⟩ := nI_of c1
      have hi8 : i < 4 := (nI_ltI (a := i) (b := 4) hi (by omega)).mp (by rw [← ei]; exact c6)
      refine lv_aload_n hx hb dX3_sent_19 rfl (lv_at hl 0 rfl) ?_
      refine gf_X3_10 X hW 0 rfl rfl dX3_sent_20 ?_
      refine gf_X3_109 X hW 1 rfl rfl dX3_sent_23 ?_
      refine lv_iload_n hx hb dX3_sent_26 rfl (lv_at hl 1 rfl) ?_
      refine fz_il X hW 12 (i) rfl ei (by omega) (by decide) dX3_sent_27 ?_
      exact fz_xri X (fz_cast (rfl) hW) (by unfold exS; exact if_pos ⟨c1, c6⟩) (by rw [ei, nI_clamp hi]) ⟨Nat.le_of_ble_eq_true rfl, Nat.le_of_ble_eq_true rfl⟩ dX3_sent_28
    · skip
      exact fz_xt X Y htab hfl hW hl (by decide +kernel) (by decide +kernel) xk_ia xi_ia xm_ia xg_ia (List.mem_of_getElem? (i := 6) rfl) (by unfold exS; rw [if_neg (fun h => c6 h.2)]) dX3_sent_9 dX3_sent_12 dX3_sent_13 dX3_sent_15 dX3_sent_18 (Nat.le_of_ble_eq_true rfl) (Nat.le_of_ble_eq_true rfl) ⟨Nat.le_of_ble_eq_true rfl, Nat.le_of_ble_eq_true rfl⟩ ⟨Nat.le_of_ble_eq_true rfl, Nat.le_of_ble_eq_true rfl⟩
def anF (v : SV) : Nat → Int32
  | 0 => 0
  | t + 1 => anF v t + wcI (v.near t)
set_option maxHeartbeats 4000000 in
set_option maxRecDepth 100000 in
theorem c_X3_anew (l : Launch) (g : GG) (f : Nat) (a b : Nat → Nat) (v u : SV) : fz_C l g yX3_anew cX3_anew 3 (some .int) 1 20 [.ref f] (FW g f a b v u) (FW g f a b v u) (some (.int (anF v 48))) := by
  refine fz_C.of (by decide) (Nat.le_of_ble_eq_true rfl) ?_
  intro p e s m args below meth c A ls X hW hl
  have hx := X.1
  have hb := X.2.1
  have hl : lv_has ls 3 [(0, .ref f)] := hl
  have X : fz_X p s m meth c RX3 cX3_anew 3 (some .int) g A := X
  have hW : fz_W g A s (FW g f a b v u) s.heap [] := hW
  refine lv_iconst (v := 0) hx hb dX3_anew_0 (by decide) ?_
  refine lv_istore_n (lv' := [(1, .int 0), (0, .ref f)]) hx hb dX3_anew_1 rfl hl (by decide) rfl (fun ls hl => ?_)
  refine lv_iconst (v := 0) hx hb dX3_anew_2 (by decide) ?_
  refine lv_istore_n (lv' := [(2, .int 0), (1, .int 0), (0, .ref f)]) hx hb dX3_anew_3 rfl hl (by decide) rfl (fun ls hl => ?_)
  have loop4 : ∀ (k : Nat) (t : Nat) (z : Int32), t ≤ 48 → 48 < t + k → z = anF v t → ∀ (H : Heap) (locs : List Loc) (ls : Array Slot), fz_W g A s (FW g f a b v u) H locs → lv_has ls 3 [(0, .ref f), (1, .int z), (2, .int (nI t))] → W p l e (fz_R 1 0 0 20) s m args below meth c H locs 0 0 (MQ below (fz_Q g (FW g f a b v u) (some (.int (anF v 48))) A) args s 0 0 A) (F0 m 4 ls []) := by
    intro k
    induction k with
    | zero =>
      intro t z ht hk
      omega
    | succ k ih4 =>
      intro t z ht hk hz H locs ls hW hl
      refine lv_iload_n hx hb dX3_anew_4 rfl (lv_at hl 2 rfl) ?_
      refine lv_bipush (v := 48) hx hb dX3_anew_5 (by decide) ?_
      refine lv_icmp_ge (tgt := 31) hx hb dX3_anew_7 (by decide) (fun c7 => ?_) (fun c7 => ?_)
      · skip
        have h7 : 48 ≤ t := (nI_leI (a := 48) (b := t) (by omega) (by omega)).mp c7
        have e7 : t = 48 := by omega
        have hl := lv_sub hl [0, 1] rfl
        have hl : lv_has ls 3 [(0, .ref f), (1, .int z)] := hl
        refine lv_iload_n hx hb dX3_anew_31 rfl (lv_at hl 1 rfl) ?_
        exact fz_ri X (fz_cast (rfl) hW) (by rw [hz, e7]) dX3_anew_32
      · skip
        have h7 : t < 48 := Nat.not_le.mp (fun z => c7 ((nI_leI (a := 48) (b := t) (by omega) (by omega)).mpr z))
        refine lv_iload_n hx hb dX3_anew_10 rfl (lv_at hl 1 rfl) ?_
        refine lv_aload_n hx hb dX3_anew_11 rfl (lv_at hl 0 rfl) ?_
        refine gf_X3_10 X hW 0 rfl rfl dX3_anew_12 ?_
        refine gf_X3_70 X hW 1 rfl rfl dX3_anew_15 ?_
        refine lv_iload_n hx hb dX3_anew_18 rfl (lv_at hl 2 rfl) ?_
        refine fz_il X hW 2 (t) rfl rfl (by omega) (by decide) dX3_anew_19 ?_
        refine fz_cSi X hW (c_X3_wholeCost l g (v.near t) _) lk_X3_115 rfl ⟨Nat.le_of_ble_eq_true rfl, Nat.le_of_ble_eq_true rfl⟩ hl rfl (Nat.le_of_ble_eq_true rfl) dX3_anew_20 ⟨Nat.le_refl _, Nat.le_refl _⟩ (fun H locs hW => ?_)
        refine lv_iadd hx hb dX3_anew_23 ?_
        refine lv_istore_n (lv' := [(1, .int (z + (wcI (v.near t)))), (0, .ref f), (2, .int (nI t))]) hx hb dX3_anew_24 rfl hl (by decide) rfl (fun ls hl => ?_)
        refine lv_iinc (v := nI (t + 1)) (lv' := [(2, .int (nI (t + 1))), (1, .int (z + (wcI (v.near t)))), (0, .ref f)]) hx hb dX3_anew_25 hl (k := 2) rfl (nI_1 _) (by decide) rfl (fun ls hl => ?_)
        refine lv_goto (tgt := 4) hx hb dX3_anew_28 (by decide) ?_
        exact ih4 (t + 1) (z + wcI (v.near t)) (by omega) (by omega) (by rw [hz]; rfl) _ _ _ (fz_cast (rfl) hW) (lv_sub hl [2, 1, 0] rfl)
  exact loop4 49 0 0 (by omega) (by omega) rfl _ _ _ (fz_cast (rfl) hW) (lv_sub hl [2, 1, 0] rfl)
end
section
set_option maxHeartbeats 4000000 in
set_option maxRecDepth 100000 in
theorem c_X3_fill (l : Launch) (hfl : l.stackTraces = false) (g : GG) (f : Nat) (a b : Nat → Nat) (v u : SV) (x y w h q : Int32) : fz_CX l g yX3_fill cX3_fill 6 (some .int) 8 3 18 134 [.ref f, .int x, .int y, .int w, .int h, .int q] (FW g f a b v u) (FW g f a b (paV v x.toNatClampNeg y.toNatClampNeg w.toNatClampNeg h.toNatClampNeg q) u) (some (.int (bcL (usF (paV v x.toNatClampNeg y.toNatClampNeg w.toNatClampNeg h.toNatClampNeg q) 48)))) (exF x y w h q) := by
  refine fz_CX.of (by decide) (Nat.le_of_ble_eq_true rfl) ?_
  intro p e s m args below meth c A ls X Y htab hW hl
  have hx := X.1
  have hb := X.2.1
  have hl : lv_has ls 6 [(0, .ref f), (1, .int x), (2, .int y), (3, .int w), (4, .int h), (5, .int q)] := hl
  have X : fz_X p s m meth c RX3 cX3_fill 6 (some .int) g A := X
  have hW : fz_W g A s (FW g f a b v u) s.heap [] := hW
  refine lv_iload_n hx hb dX3_fill_0 rfl (lv_at hl 1 rfl) ?_
  refine lv_iload_n hx hb dX3_fill_1 rfl (lv_at hl 2 rfl) ?_
  refine lv_iload_n hx hb dX3_fill_2 rfl (lv_at hl 3 rfl) ?_
  refine lv_iload hx hb dX3_fill_3 (lv_at hl 4 rfl) ?_
  refine fz_xc X Y htab hW (c_X3_checkBlock l hfl g x y w h _) lk_X3_19 (fun E k => ex_p k) rfl ⟨Nat.le_of_ble_eq_true rfl, Nat.le_of_ble_eq_true rfl⟩ hl rfl (Nat.le_of_ble_eq_true rfl) dX3_fill_5 ⟨Nat.le_of_ble_eq_true rfl, Nat.le_of_ble_eq_true rfl⟩ ⟨Nat.le_of_ble_eq_true rfl, Nat.le_of_ble_eq_true rfl⟩ (fun H locs hx5 hW => ?_)
  have kb : okB x y w h := ex_n hx5
  obtain ⟨i, j, wd, hg, e1, e2, e3, e4, -, -, b1, b2, n1, n2, n3, n4⟩ := okB_nat kb
  refine lv_iload hx hb dX3_fill_8 (lv_at hl 5 rfl) ?_
  refine lv_if_lt (tgt := 21) hx hb dX3_fill_10 (by decide) (fun c10 => ?_) (fun c10 => ?_)
  · skip
    exact fz_xt X Y htab hfl hW hl (by decide +kernel) (by decide +kernel) xk_ia xi_ia xm_ia xg_ia (List.mem_of_getElem? (i := 2) rfl) (by unfold exF; rw [if_pos kb, if_neg (fun z => z.1 c10)]) dX3_fill_21 dX3_fill_24 dX3_fill_25 dX3_fill_27 dX3_fill_30 (Nat.le_of_ble_eq_true rfl) (Nat.le_of_ble_eq_true rfl) ⟨Nat.le_of_ble_eq_true rfl, Nat.le_of_ble_eq_true rfl⟩ ⟨Nat.le_of_ble_eq_true rfl, Nat.le_of_ble_eq_true rfl⟩
  · skip
    refine lv_iload hx hb dX3_fill_13 (lv_at hl 5 rfl) ?_
    refine lv_sipush (v := 255) hx hb dX3_fill_15 (by decide) ?_
    refine lv_icmp_le (tgt := 31) hx hb dX3_fill_18 (by decide) (fun c18 => ?_) (fun c18 => ?_)
    · skip
      subst e1; subst e2; subst e3; subst e4
      refine lv_aload_n hx hb dX3_fill_31 rfl (lv_at hl 0 rfl) ?_
      refine gf_X3_10 X hW 0 rfl rfl dX3_fill_32 ?_
      refine lv_iload_n hx hb dX3_fill_35 rfl (lv_at hl 1 rfl) ?_
      refine lv_iload_n hx hb dX3_fill_36 rfl (lv_at hl 2 rfl) ?_
      refine lv_iload_n hx hb dX3_fill_37 rfl (lv_at hl 3 rfl) ?_
      refine lv_iload hx hb dX3_fill_38 (lv_at hl 4 rfl) ?_
      refine lv_iload hx hb dX3_fill_40 (lv_at hl 5 rfl) ?_
      refine fz_cVv X hW (cf_paint l g f a b v u i j wd hg q b1 b2) lk_X3_30 (ci := 2) (q0 := 1) rfl rfl rfl rfl ⟨Nat.le_of_ble_eq_true rfl, Nat.le_of_ble_eq_true rfl⟩ hl rfl (Nat.le_of_ble_eq_true rfl) dX3_fill_42 ⟨Nat.le_of_ble_eq_true rfl, Nat.le_of_ble_eq_true rfl⟩ (fun H locs hW => ?_)
      refine lv_aload_n hx hb dX3_fill_45 rfl (lv_at hl 0 rfl) ?_
      refine gf_X3_10 X hW 0 rfl rfl dX3_fill_46 ?_
      refine fz_cVi X hW (cf_countUnlike l g f a b (paV v i j wd hg q) u) lk_X3_34 (ci := 2) (q0 := 1) rfl rfl rfl rfl ⟨Nat.le_of_ble_eq_true rfl, Nat.le_of_ble_eq_true rfl⟩ hl rfl (Nat.le_of_ble_eq_true rfl) dX3_fill_49 ⟨Nat.le_of_ble_eq_true rfl, Nat.le_of_ble_eq_true rfl⟩ (fun H locs hW => ?_)
      exact fz_xri X (fz_cast (by rw [n1, n2, n3, n4]) hW) (by unfold exF; rw [if_pos kb]; exact if_pos ⟨c10, c18⟩) (by rw [n1, n2, n3, n4]) ⟨Nat.le_of_ble_eq_true rfl, Nat.le_of_ble_eq_true rfl⟩ dX3_fill_52
    · skip
      exact fz_xt X Y htab hfl hW hl (by decide +kernel) (by decide +kernel) xk_ia xi_ia xm_ia xg_ia (List.mem_of_getElem? (i := 2) rfl) (by unfold exF; rw [if_pos kb, if_neg (fun z => c18 z.2)]) dX3_fill_21 dX3_fill_24 dX3_fill_25 dX3_fill_27 dX3_fill_30 (Nat.le_of_ble_eq_true rfl) (Nat.le_of_ble_eq_true rfl) ⟨Nat.le_of_ble_eq_true rfl, Nat.le_of_ble_eq_true rfl⟩ ⟨Nat.le_of_ble_eq_true rfl, Nat.le_of_ble_eq_true rfl⟩
set_option maxHeartbeats 4000000 in
set_option maxRecDepth 100000 in
theorem c_X3_move (l : Launch) (hfl : l.stackTraces = false) (g : GG) (f : Nat) (a b : Nat → Nat) (v u : SV) (x y w h x2 y2 : Int32) (hwm : v.wm ≤ 4) : fz_CX l g yX3_move cX3_move 7 (some .int) 8 5 30 134 [.ref f, .int x, .int y, .int w, .int h, .int x2, .int y2] (FW g f a b v u) (FW g f a b (shV v (mkM x.toNatClampNeg y.toNatClampNeg w.toNatClampNeg h.toNatClampNeg x2.toNatClampNeg y2.toNatClampNeg)) u) (some (.int (nI (shV v (mkM x.toNatClampNeg y.toNatClampNeg w.toNatClampNeg h.toNatClampNeg x2.toNatClampNeg y2.toNatClampNeg)).wm))) (exM x y w h x2 y2) := by
  refine fz_CX.of (by decide) (Nat.le_of_ble_eq_true rfl) ?_
  intro p e s m args below meth c A ls X Y htab hW hl
  have hx := X.1
  have hb := X.2.1
  have hl : lv_has ls 7 [(0, .ref f), (1, .int x), (2, .int y), (3, .int w), (4, .int h), (5, .int x2), (6, .int y2)] := hl
  have X : fz_X p s m meth c RX3 cX3_move 7 (some .int) g A := X
  have hW : fz_W g A s (FW g f a b v u) s.heap [] := hW
  refine lv_iload_n hx hb dX3_move_0 rfl (lv_at hl 1 rfl) ?_
  refine lv_iload_n hx hb dX3_move_1 rfl (lv_at hl 2 rfl) ?_
  refine lv_iload_n hx hb dX3_move_2 rfl (lv_at hl 3 rfl) ?_
  refine lv_iload hx hb dX3_move_3 (lv_at hl 4 rfl) ?_
  refine fz_xc X Y htab hW (c_X3_checkBlock l hfl g x y w h _) lk_X3_19 (fun E k => ex_p k) rfl ⟨Nat.le_of_ble_eq_true rfl, Nat.le_of_ble_eq_true rfl⟩ hl rfl (Nat.le_of_ble_eq_true rfl) dX3_move_5 ⟨Nat.le_of_ble_eq_true rfl, Nat.le_of_ble_eq_true rfl⟩ ⟨Nat.le_of_ble_eq_true rfl, Nat.le_of_ble_eq_true rfl⟩ (fun H locs hx5 hW => ?_)
  have kb : okB x y w h := ex_n hx5
  refine lv_iload hx hb dX3_move_8 (lv_at hl 5 rfl) ?_
  refine lv_iload hx hb dX3_move_10 (lv_at hl 6 rfl) ?_
  refine lv_iload_n hx hb dX3_move_12 rfl (lv_at hl 3 rfl) ?_
  refine lv_iload hx hb dX3_move_13 (lv_at hl 4 rfl) ?_
  refine fz_xc X Y htab hW (c_X3_checkBlock l hfl g x2 y2 w h _) lk_X3_19 (fun E k => by
    unfold exM
    rw [if_pos kb]
    exact ex_p k) rfl ⟨Nat.le_of_ble_eq_true rfl, Nat.le_of_ble_eq_true rfl⟩ hl rfl (Nat.le_of_ble_eq_true rfl) dX3_move_15 ⟨Nat.le_of_ble_eq_true rfl, Nat.le_of_ble_eq_true rfl⟩ ⟨Nat.le_of_ble_eq_true rfl, Nat.le_of_ble_eq_true rfl⟩ (fun H locs hx15 hW => ?_)
  have kb2 : okB x2 y2 w h := ex_n hx15
  obtain ⟨i, j, wd, hg, e1, e2, e3, e4, -, -, b1, b2, n1, n2, n3, n4⟩ := okB_nat kb
  obtain ⟨i2, j2, wd2, hg2, e5, e6, -, -, -, -, b3, b4, n5, n6, n7, n8⟩ := okB_nat kb2
  have ew : wd2 = wd := n7.symm.trans n3
  have eh : hg2 = hg := n8.symm.trans n4
  rw [ew] at b3
  rw [eh] at b4
  refine lv_iload_n hx hb dX3_move_18 rfl (lv_at hl 1 rfl) ?_
  refine lv_iload hx hb dX3_move_19 (lv_at hl 5 rfl) ?_
  refine lv_icmp_ne (tgt := 40) hx hb dX3_move_21 (by decide) (fun c21 => ?_) (fun c21 => ?_)
  · skip
    subst e1; subst e2; subst e3; subst e4; subst e5; subst e6
    refine lv_aload_n hx hb dX3_move_40 rfl (lv_at hl 0 rfl) ?_
    refine gf_X3_10 X hW 0 rfl rfl dX3_move_41 ?_
    refine lv_iload_n hx hb dX3_move_44 rfl (lv_at hl 1 rfl) ?_
    refine lv_iload_n hx hb dX3_move_45 rfl (lv_at hl 2 rfl) ?_
    refine lv_iload_n hx hb dX3_move_46 rfl (lv_at hl 3 rfl) ?_
    refine lv_iload hx hb dX3_move_47 (lv_at hl 4 rfl) ?_
    refine lv_iload hx hb dX3_move_49 (lv_at hl 5 rfl) ?_
    refine lv_iload hx hb dX3_move_51 (lv_at hl 6 rfl) ?_
    refine fz_cVv X hW (cf_shift l g f a b v u (mkM i j wd hg i2 j2) ⟨b1, b2, b3, b4⟩ hwm) lk_X3_40 (ci := 2) (q0 := 1) rfl rfl rfl rfl ⟨Nat.le_of_ble_eq_true rfl, Nat.le_of_ble_eq_true rfl⟩ hl rfl (Nat.le_of_ble_eq_true rfl) dX3_move_53 ⟨Nat.le_of_ble_eq_true rfl, Nat.le_of_ble_eq_true rfl⟩ (fun H locs hW => ?_)
    refine lv_aload_n hx hb dX3_move_56 rfl (lv_at hl 0 rfl) ?_
    refine gf_X3_10 X hW 0 rfl rfl dX3_move_57 ?_
    refine gf_X3_44 X hW 1 rfl rfl dX3_move_60 ?_
    exact fz_xri X (fz_cast (by rw [n1, n2, n3, n4, n5, n6]) hW) (by unfold exM; rw [if_pos kb, if_pos kb2]; first | exact if_neg (fun z => c21 z.1) | exact if_neg (fun z => c27 z.2)) (by rw [n1, n2, n3, n4, n5, n6]) ⟨Nat.le_of_ble_eq_true rfl, Nat.le_of_ble_eq_true rfl⟩ dX3_move_63
  · skip
    refine lv_iload_n hx hb dX3_move_24 rfl (lv_at hl 2 rfl) ?_
    refine lv_iload hx hb dX3_move_25 (lv_at hl 6 rfl) ?_
    refine lv_icmp_ne (tgt := 40) hx hb dX3_move_27 (by decide) (fun c27 => ?_) (fun c27 => ?_)
    · skip
      subst e1; subst e2; subst e3; subst e4; subst e5; subst e6
      refine lv_aload_n hx hb dX3_move_40 rfl (lv_at hl 0 rfl) ?_
      refine gf_X3_10 X hW 0 rfl rfl dX3_move_41 ?_
      refine lv_iload_n hx hb dX3_move_44 rfl (lv_at hl 1 rfl) ?_
      refine lv_iload_n hx hb dX3_move_45 rfl (lv_at hl 2 rfl) ?_
      refine lv_iload_n hx hb dX3_move_46 rfl (lv_at hl 3 rfl) ?_
      refine lv_iload hx hb dX3_move_47 (lv_at hl 4 rfl) ?_
      refine lv_iload hx hb dX3_move_49 (lv_at hl 5 rfl) ?_
      refine lv_iload hx hb dX3_move_51 (lv_at hl 6 rfl) ?_
      refine fz_cVv X hW (cf_shift l g f a b v u (mkM i j wd hg i2 j2) ⟨b1, b2, b3, b4⟩ hwm) lk_X3_40 (ci := 2) (q0 := 1) rfl rfl rfl rfl ⟨Nat.le_of_ble_eq_true rfl, Nat.le_of_ble_eq_true rfl⟩ hl rfl (Nat.le_of_ble_eq_true rfl) dX3_move_53 ⟨Nat.le_of_ble_eq_true rfl, Nat.le_of_ble_eq_true rfl⟩ (fun H locs hW => ?_)
      refine lv_aload_n hx hb dX3_move_56 rfl (lv_at hl 0 rfl) ?_
      refine gf_X3_10 X hW 0 rfl rfl dX3_move_57 ?_
      refine gf_X3_44 X hW 1 rfl rfl dX3_move_60 ?_
      exact fz_xri X (fz_cast (by rw [n1, n2, n3, n4, n5, n6]) hW) (by unfold exM; rw [if_pos kb, if_pos kb2]; first | exact if_neg (fun z => c21 z.1) | exact if_neg (fun z => c27 z.2)) (by rw [n1, n2, n3, n4, n5, n6]) ⟨Nat.le_of_ble_eq_true rfl, Nat.le_of_ble_eq_true rfl⟩ dX3_move_63
    · skip
      exact fz_xt X Y htab hfl hW hl (by decide +kernel) (by decide +kernel) xk_ia xi_ia xm_ia xg_ia (List.mem_of_getElem? (i := 3) rfl) (by unfold exM; rw [if_pos kb, if_pos kb2, if_pos ⟨c21, c27⟩]) dX3_move_30 dX3_move_33 dX3_move_34 dX3_move_36 dX3_move_39 (Nat.le_of_ble_eq_true rfl) (Nat.le_of_ble_eq_true rfl) ⟨Nat.le_of_ble_eq_true rfl, Nat.le_of_ble_eq_true rfl⟩ ⟨Nat.le_of_ble_eq_true rfl, Nat.le_of_ble_eq_true rfl⟩
def SOK (v : SV) : Prop := v.wm ≤ 4 ∧ v.kc ≤ 8 ∧ ∀ j, j < v.wm → MOK (v.mv j)
theorem fmF_at (mv : Nat → Nat → Nat) (n : Nat) : ∀ k j, (j < k → fmF mv n k j = mv (n + j)) ∧ (k ≤ j → fmF mv n k j = mv j) := by
  intro k
  induction k with
  | zero => intro j; exact ⟨fun h => absurd h (Nat.not_lt_zero _), fun _ => rfl⟩
  | succ k ih =>
    intro j
    have e : fmF mv n (k + 1) j = if j = k then fmF mv n k (n + k) else fmF mv n k j := rfl
    refine ⟨fun h => ?_, fun h => ?_⟩
    · by_cases hj : j = k
      · subst hj
        rw [e, if_pos rfl]
        exact (ih (n + j)).2 (by omega)
      · rw [e, if_neg hj]
        exact (ih j).1 (by omega)
    · rw [e, if_neg (by omega)]
      exact (ih j).2 (by omega)
theorem stR_mv (v : SV) (t : Nat) (b : Int32) : (stR v t b).2.wm = v.wm ∧ (stR v t b).2.mv = v.mv := by
  have sp : ∀ w c, (spR v t w c b).2.wm = v.wm ∧ (spR v t w c b).2.mv = v.mv := by
    intro w c
    unfold spR
    split <;> exact ⟨rfl, rfl⟩
  have sr : (srR v t b).2.wm = v.wm ∧ (srR v t b).2.mv = v.mv := by
    unfold srR
    split
    · exact ⟨rfl, rfl⟩
    · split <;> exact ⟨rfl, rfl⟩
  unfold stR
  split
  · split
    · exact sr
    · exact sp _ _
  · exact sp _ _
theorem saF_mv (v : SV) (b : Int32) : ∀ y, (saF v b y).2.wm = v.wm ∧ (saF v b y).2.mv = v.mv := by
  intro y
  induction y with
  | zero => exact ⟨rfl, rfl⟩
  | succ y ih =>
    have k := stR_mv (saF v b y).2 ((saF v b y).2.order y).toNatClampNeg (saF v b y).1
    exact ⟨k.1.trans ih.1, k.2.trans ih.2⟩
theorem SOK_tl (v : SV) (b : Int32) (h : SOK v) : SOK (tlV v b) := by
  obtain ⟨h1, h2, h3⟩ := h
  obtain ⟨k1, k2⟩ := tlV_keep v b h1 h2
  refine ⟨k1, k2, fun j hj => ?_⟩
  obtain ⟨t1, t2, t3, t4, t5⟩ := tlF_keep b v.wm v 0
  have e : (tlV v b).mv j = fmF (tlF b v 0 v.wm).2.mv (tlF b v 0 v.wm).1 ((tlF b v 0 v.wm).2.wm - (tlF b v 0 v.wm).1) j := rfl
  have hj2 : j < (tlF b v 0 v.wm).2.wm - (tlF b v 0 v.wm).1 := hj
  rw [e, (fmF_at _ _ _ j).1 hj2, t1]
  exact h3 _ (by omega)
theorem SOK_ps (v : SV) (b : Int32) (h : SOK v) : SOK (psV v b) := by
  have k := SOK_tl v b h
  have g1 : SOK (psA v b).2 := by
    unfold psA
    split
    · obtain ⟨q1, q2, q3⟩ := k
      have m1 := saF_mv (piV (tlV v b) 48) (b - (tlR v b).1) (piF (tlV v b) 48).1
      have m2 := saF_keep (piV (tlV v b) 48) (b - (tlR v b).1) q2 (piF (tlV v b) 48).1
      have e1 : (saR (tlR v b).2 (b - (tlR v b).1)).2.wm = (tlV v b).wm := m1.1
      have e2 : (saR (tlR v b).2 (b - (tlR v b).1)).2.mv = (tlV v b).mv := m1.2
      refine ⟨?_, m2.2, fun j hj => ?_⟩
      · show (saR (tlR v b).2 (b - (tlR v b).1)).2.wm ≤ 4
        rw [e1]; exact q1
      · show MOK ((saR (tlR v b).2 (b - (tlR v b).1)).2.mv j)
        have hj' : j < (saR (tlR v b).2 (b - (tlR v b).1)).2.wm := hj
        rw [e1] at hj'
        rw [e2]; exact q3 j hj'
    · exact k
  exact g1
theorem SOK_co (u v : SV) (h : SOK v) : SOK (coV u v) := by
  refine ⟨h.1, h.2.1, fun j hj => ?_⟩
  have hj' : j < v.wm := hj
  show MOK (if j < v.wm then v.mv j else u.mv j)
  rw [if_pos hj']
  exact h.2.2 j hj'
def stgF (b : Int32) : SV → Nat → Nat → Int32 × SV
  | u, n, 0 => (if alI u = 0 then -1 else nI n, u)
  | u, n, k + 1 => if alI u = 0 then (if (psA u b).1 = 0 ∧ hfF u 0 48 = 0 then (-1, psV u b) else stgF b (psV u b) (n + 1) k) else (nI n, u)
set_option maxHeartbeats 4000000 in
set_option maxRecDepth 100000 in
theorem c_X3_stepsToGo (l : Launch) (hfl : l.stackTraces = false) (g : GG) (f : Nat) (a b : Nat → Nat) (v u : SV) (x : Int32) (hok : SOK v) : fz_CX l g yX3_stepsToGo cX3_stepsToGo 5 (some .int) 7 1 6 145 [.ref f, .int x] (FW g f a b v u) (FW g f a b v (stgF x (coV u v) 0 100).2) (some (.int (stgF x (coV u v) 0 100).1)) (exG x) := by
  refine fz_CX.of (by decide) (Nat.le_of_ble_eq_true rfl) ?_
  intro p e s m args below meth c A ls X Y htab hW hl
  have hx := X.1
  have hb := X.2.1
  have hl : lv_has ls 5 [(0, .ref f), (1, .int x)] := hl
  have X : fz_X p s m meth c RX3 cX3_stepsToGo 5 (some .int) g A := X
  have hW : fz_W g A s (FW g f a b v u) s.heap [] := hW
  refine lv_iload_n hx hb dX3_stepsToGo_0 rfl (lv_at hl 1 rfl) ?_
  refine fz_xc X Y htab hW (c_X3_checkBudget l hfl g x _) lk_X3_59 (fun E k => k) rfl ⟨Nat.le_of_ble_eq_true rfl, Nat.le_of_ble_eq_true rfl⟩ hl rfl (Nat.le_of_ble_eq_true rfl) dX3_stepsToGo_1 ⟨Nat.le_of_ble_eq_true rfl, Nat.le_of_ble_eq_true rfl⟩ ⟨Nat.le_of_ble_eq_true rfl, Nat.le_of_ble_eq_true rfl⟩ (fun H locs hx1 hW => ?_)
  have hnone := hx1
  refine lv_aload_n hx hb dX3_stepsToGo_4 rfl (lv_at hl 0 rfl) ?_
  refine gf_X3_16 X hW 0 rfl rfl dX3_stepsToGo_5 ?_
  refine lv_aload_n hx hb dX3_stepsToGo_8 rfl (lv_at hl 0 rfl) ?_
  refine gf_X3_10 X hW 0 rfl rfl dX3_stepsToGo_9 ?_
  refine fz_cVv X hW (cf_copyFrom l g f a b v u hok.1) lk_X3_118 (ci := 2) (q0 := 18) rfl rfl rfl rfl ⟨Nat.le_of_ble_eq_true rfl, Nat.le_of_ble_eq_true rfl⟩ hl rfl (Nat.le_of_ble_eq_true rfl) dX3_stepsToGo_12 ⟨Nat.le_of_ble_eq_true rfl, Nat.le_of_ble_eq_true rfl⟩ (fun H locs hW => ?_)
  refine lv_iconst (v := 0) hx hb dX3_stepsToGo_15 (by decide) ?_
  refine lv_istore_n (lv' := [(2, .int 0), (0, .ref f), (1, .int x)]) hx hb dX3_stepsToGo_16 rfl hl (by decide) rfl (fun ls hl => ?_)
  have loop17 : ∀ (k : Nat) (n : Nat) (w : SV), n ≤ 100 → 100 < n + k → stgF x (coV u v) 0 100 = stgF x w n (100 - n) → SOK w → ∀ (H : Heap) (locs : List Loc) (ls : Array Slot), fz_W g A s (FW g f a b v w) H locs → lv_has ls 5 [(0, .ref f), (1, .int x), (2, .int (nI n))] → W p l e (fz_R 7 1 6 145) s m args below meth c H locs 1 6 (vx_MQ below (fz_QX (exG x) g (FW g f a b v (stgF x (coV u v) 0 100).2) (some (.int (stgF x (coV u v) 0 100).1)) A) (fz_XX (exG x) g (FW g f a b v u) A) args s 1 6 A) (F0 m 17 ls []) := by
    intro k
    induction k with
    | zero =>
      intro n w hn hk
      omega
    | succ k ih17 =>
      intro n w hn hk he hk2 H locs ls hW hl
      refine lv_iload_n hx hb dX3_stepsToGo_17 rfl (lv_at hl 2 rfl) ?_
      refine lv_bipush (v := 100) hx hb dX3_stepsToGo_18 (by decide) ?_
      refine lv_icmp_ge (tgt := 68) hx hb dX3_stepsToGo_20 (by decide) (fun c20 => ?_) (fun c20 => ?_)
      · skip
        have h20 : 100 ≤ n := (nI_leI (a := 100) (b := n) (by omega) (by omega)).mp c20
        have hs : stgF x (coV u v) 0 100 = (if alI w = 0 then -1 else nI n, w) := by rw [he, show 100 - n = 0 by omega]; rfl
        refine lv_aload_n hx hb dX3_stepsToGo_68 rfl (lv_at hl 0 rfl) ?_
        refine gf_X3_16 X hW 0 rfl rfl dX3_stepsToGo_69 ?_
        refine fz_cVi X hW (cf_isAllSentB l g f a b v w hk2.1) lk_X3_122 (ci := 2) (q0 := 18) rfl rfl rfl rfl ⟨Nat.le_of_ble_eq_true rfl, Nat.le_of_ble_eq_true rfl⟩ hl rfl (Nat.le_of_ble_eq_true rfl) dX3_stepsToGo_72 ⟨Nat.le_of_ble_eq_true rfl, Nat.le_of_ble_eq_true rfl⟩ (fun H locs hW => ?_)
        refine lv_if_eq (tgt := 82) hx hb dX3_stepsToGo_75 (by decide) (fun c75 => ?_) (fun c75 => ?_)
        · skip
          refine lv_iconst (v := (-1)) hx hb dX3_stepsToGo_82 (by decide) ?_
          exact fz_xri X (fz_cast (by rw [hs]) hW) (hnone) (by rw [hs]; exact (if_pos c75).symm) ⟨Nat.le_of_ble_eq_true rfl, Nat.le_of_ble_eq_true rfl⟩ dX3_stepsToGo_83
        · skip
          refine lv_iload_n hx hb dX3_stepsToGo_78 rfl (lv_at hl 2 rfl) ?_
          refine lv_goto (tgt := 83) hx hb dX3_stepsToGo_79 (by decide) ?_
          exact fz_xri X (fz_cast (by rw [hs]) hW) (hnone) (by rw [hs]; exact (if_neg c75).symm) ⟨Nat.le_of_ble_eq_true rfl, Nat.le_of_ble_eq_true rfl⟩ dX3_stepsToGo_83
      · skip
        have h20 : n < 100 := Nat.not_le.mp (fun z => c20 ((nI_leI (a := 100) (b := n) (by omega) (by omega)).mpr z))
        refine lv_aload_n hx hb dX3_stepsToGo_23 rfl (lv_at hl 0 rfl) ?_
        refine gf_X3_16 X hW 0 rfl rfl dX3_stepsToGo_24 ?_
        refine fz_cVi X hW (cf_isAllSentB l g f a b v w hk2.1) lk_X3_122 (ci := 2) (q0 := 18) rfl rfl rfl rfl ⟨Nat.le_of_ble_eq_true rfl, Nat.le_of_ble_eq_true rfl⟩ hl rfl (Nat.le_of_ble_eq_true rfl) dX3_stepsToGo_27 ⟨Nat.le_of_ble_eq_true rfl, Nat.le_of_ble_eq_true rfl⟩ (fun H locs hW => ?_)
        refine lv_if_ne (tgt := 68) hx hb dX3_stepsToGo_30 (by decide) (fun c30 => ?_) (fun c30 => ?_)
        · skip
          have c30 : ¬ alI w = 0 := c30
          have hs : stgF x (coV u v) 0 100 = (nI n, w) := by rw [he, show 100 - n = (100 - (n + 1)) + 1 by omega]; exact if_neg c30
          refine lv_aload_n hx hb dX3_stepsToGo_68 rfl (lv_at hl 0 rfl) ?_
          refine gf_X3_16 X hW 0 rfl rfl dX3_stepsToGo_69 ?_
          refine fz_cVi X hW (cf_isAllSentB l g f a b v w hk2.1) lk_X3_122 (ci := 2) (q0 := 18) rfl rfl rfl rfl ⟨Nat.le_of_ble_eq_true rfl, Nat.le_of_ble_eq_true rfl⟩ hl rfl (Nat.le_of_ble_eq_true rfl) dX3_stepsToGo_72 ⟨Nat.le_of_ble_eq_true rfl, Nat.le_of_ble_eq_true rfl⟩ (fun H locs hW => ?_)
          refine lv_if_eq (tgt := 82) hx hb dX3_stepsToGo_75 (by decide) (fun c75 => ?_) (fun c75 => ?_)
          · skip
            refine lv_iconst (v := (-1)) hx hb dX3_stepsToGo_82 (by decide) ?_
            exact fz_xri X (fz_cast (by rw [hs]) hW) (hnone) (absurd c75 c30) ⟨Nat.le_of_ble_eq_true rfl, Nat.le_of_ble_eq_true rfl⟩ dX3_stepsToGo_83
          · skip
            refine lv_iload_n hx hb dX3_stepsToGo_78 rfl (lv_at hl 2 rfl) ?_
            refine lv_goto (tgt := 83) hx hb dX3_stepsToGo_79 (by decide) ?_
            exact fz_xri X (fz_cast (by rw [hs]) hW) (hnone) (by rw [hs]) ⟨Nat.le_of_ble_eq_true rfl, Nat.le_of_ble_eq_true rfl⟩ dX3_stepsToGo_83
        · skip
          have c30 : alI w = 0 := c30
          refine lv_aload_n hx hb dX3_stepsToGo_33 rfl (lv_at hl 0 rfl) ?_
          refine gf_X3_16 X hW 0 rfl rfl dX3_stepsToGo_34 ?_
          refine fz_cVi X hW (cf_hasFilmB l g f a b v w) lk_X3_126 (ci := 2) (q0 := 18) rfl rfl rfl rfl ⟨Nat.le_of_ble_eq_true rfl, Nat.le_of_ble_eq_true rfl⟩ hl rfl (Nat.le_of_ble_eq_true rfl) dX3_stepsToGo_37 ⟨Nat.le_of_ble_eq_true rfl, Nat.le_of_ble_eq_true rfl⟩ (fun H locs hW => ?_)
          refine lv_istore_n (lv' := [(3, .int (hfF w 0 48)), (0, .ref f), (1, .int x), (2, .int (nI n))]) hx hb dX3_stepsToGo_40 rfl hl (by decide) rfl (fun ls hl => ?_)
          refine lv_aload_n hx hb dX3_stepsToGo_41 rfl (lv_at hl 1 rfl) ?_
          refine gf_X3_16 X hW 0 rfl rfl dX3_stepsToGo_42 ?_
          refine lv_iload_n hx hb dX3_stepsToGo_45 rfl (lv_at hl 2 rfl) ?_
          refine fz_cVi X hW (cf_passStepB l g f a b v w x hk2.1 hk2.2.1 hk2.2.2) lk_X3_63 (ci := 2) (q0 := 18) rfl rfl rfl rfl ⟨Nat.le_of_ble_eq_true rfl, Nat.le_of_ble_eq_true rfl⟩ hl rfl (Nat.le_of_ble_eq_true rfl) dX3_stepsToGo_46 ⟨Nat.le_of_ble_eq_true rfl, Nat.le_of_ble_eq_true rfl⟩ (fun H locs hW => ?_)
          refine lv_istore (lv' := [(4, .int ((psA w x).1)), (3, .int (hfF w 0 48)), (0, .ref f), (1, .int x), (2, .int (nI n))]) hx hb dX3_stepsToGo_49 hl (by decide) rfl (fun ls hl => ?_)
          refine lv_iload hx hb dX3_stepsToGo_51 (lv_at hl 0 rfl) ?_
          refine lv_if_ne (tgt := 62) hx hb dX3_stepsToGo_53 (by decide) (fun c53 => ?_) (fun c53 => ?_)
          · skip
            have hneg : ¬ ((psA w x).1 = 0 ∧ hfF w 0 48 = 0) := fun z => c53 z.1
            refine lv_iinc (v := nI (n + 1)) (lv' := [(2, .int (nI (n + 1))), (4, .int ((psA w x).1)), (3, .int (hfF w 0 48)), (0, .ref f), (1, .int x)]) hx hb dX3_stepsToGo_62 hl (k := 4) rfl (nI_1 _) (by decide) rfl (fun ls hl => ?_)
            refine lv_goto (tgt := 17) hx hb dX3_stepsToGo_65 (by decide) ?_
            exact ih17 (n + 1) (psV w x) (by omega) (by omega) (by rw [he, show 100 - n = (100 - (n + 1)) + 1 by omega]; exact (if_pos c30).trans (if_neg hneg)) (SOK_ps w x hk2) _ _ _ (fz_cast (rfl) hW) (lv_sub hl [3, 4, 0] rfl)
          · skip
            refine lv_iload_n hx hb dX3_stepsToGo_56 rfl (lv_at hl 1 rfl) ?_
            refine lv_if_ne (tgt := 62) hx hb dX3_stepsToGo_57 (by decide) (fun c57 => ?_) (fun c57 => ?_)
            · skip
              have hneg : ¬ ((psA w x).1 = 0 ∧ hfF w 0 48 = 0) := fun z => c57 z.2
              refine lv_iinc (v := nI (n + 1)) (lv' := [(2, .int (nI (n + 1))), (4, .int ((psA w x).1)), (3, .int (hfF w 0 48)), (0, .ref f), (1, .int x)]) hx hb dX3_stepsToGo_62 hl (k := 4) rfl (nI_1 _) (by decide) rfl (fun ls hl => ?_)
              refine lv_goto (tgt := 17) hx hb dX3_stepsToGo_65 (by decide) ?_
              exact ih17 (n + 1) (psV w x) (by omega) (by omega) (by rw [he, show 100 - n = (100 - (n + 1)) + 1 by omega]; exact (if_pos c30).trans (if_neg hneg)) (SOK_ps w x hk2) _ _ _ (fz_cast (rfl) hW) (lv_sub hl [3, 4, 0] rfl)
            · skip
              have hs : stgF x (coV u v) 0 100 = (-1, psV w x) := by rw [he, show 100 - n = (100 - (n + 1)) + 1 by omega]; exact (if_pos c30).trans (if_pos ⟨c53, c57⟩)
              refine lv_iconst (v := (-1)) hx hb dX3_stepsToGo_60 (by decide) ?_
              exact fz_xri X (fz_cast (by rw [hs]) hW) (hnone) (by rw [hs]) ⟨Nat.le_of_ble_eq_true rfl, Nat.le_of_ble_eq_true rfl⟩ dX3_stepsToGo_61
  exact loop17 101 0 (coV u v) (by omega) (by omega) rfl (SOK_co u v hok) _ _ _ (fz_cast (rfl) hW) (lv_sub hl [1, 2, 0] rfl)
end
section
/-! constructors: contracts whose end holds new cells; rows that make cells -/
def fz_QN (g : GG) (K : va_W → Prop) (A : Nat → Prop) : Array Value → State → Outcome → State → Prop := fun _ st oc t => (oc = .returned none ∧ ∃ W1 : va_W, K W1 ∧ va_P g.1 classes W1 t.heap ∧ va_D A W1) ∧ va_F A st t
def fz_CN (l : Launch) (g : GG) (y : MethodName) (b : ByteArray) (n rf rc rs rl : Nat) (as : List Value) (W0 : va_W) (K : va_W → Prop) : Prop :=
  ∀ sz : Nat, Met l y [.code y b n none] (fz_R rf rc rs rl) (fz_P g as W0 sz) (fz_QN g K (va_A W0 sz)) rc rs (va_A W0 sz)
theorem fz_CN.of {l : Launch} {g : GG} {y : MethodName} {b : ByteArray} {n rf rc rs rl : Nat} {as : List Value} {W0 : va_W} {K : va_W → Prop} (hy : plainName y.cls = true) (hn : (lg_sl as).length ≤ n)
    (body : ∀ (p : Program) (e : Env) (s : State) (m : MethodId) (args : Array Value) (below : List Frame) (meth : Method) (c : Code) (A : Nat → Prop) (ls : Array Slot), fz_X p s m meth c y.cls b n none g A → meth.name = y.name → fz_W g A s W0 s.heap [] → lv_has ls n (lv_args 0 as) →
      W p l e (fz_R rf rc rs rl) s m args below meth c s.heap [] 0 0 (MQ below (fz_QN g K A) args s rc rs A) (F0 m 0 ls [])) : fz_CN l g y b n rf rc rs rl as W0 K := by
  intro sz
  refine Met.ofW (cc := b) (maxL := n) (ret := none) hy rfl ?_
  intro p e s m args below meth c s₁ B hml hv
  obtain ⟨rfl, hsz, hP, hE, hD0⟩ := hv
  subst hsz
  have hD : va_D (va_A W0 s.heap.size) W0 := hD0.self (sz := s.heap.size)
  have hl := lv_entry as (n := n) hn
  rw [lg_entry_eq]
  exact body p e s m as.toArray below meth c _ _ ⟨B.exec, B.bytes, B.returns, hml, findClass_of_methodNamed B.named, B.notSynchronized, hE, fun q h => Or.inr h⟩ (name_of_methodNamed B.named B.method).1 ⟨hP, hD, va_S.rf⟩ hl
def fz_LI (own : String) (idx : Nat) (y : MethodName) (b : ByteArray) (n : Nat) : Prop := fz_LB y b n none 0 ∧ fz_M (.methodLink own idx y) ∧ fz_M (.instanceMethod y) ∧ y.name = "<init>"
def fz_LJ (own : String) (idx : Nat) (y : MethodName) (b : ByteArray) (n : Nat) : Prop := fz_LB y b n none 0 ∧ (∃ host : String, fz_M (.methodLinkNest own idx y host)) ∧ fz_M (.instanceMethod y) ∧ y.name = "<init>"
section FN
variable {p : Program} {l : Launch} {e : Env} {R : Room} {s : State} {m : MethodId} {args : Array Value} {below : List Frame} {meth : Method} {c : Code} {H : Heap} {locs : List Loc} {cells slots : Nat} {Q : State → Prop}
variable {own : String} {cc : ByteArray} {n : Nat} {ret : Option FieldType} {g : GG} {A : Nat → Prop} {ws : va_W} {pc : Nat} {ls : Array Slot} {rest : List Value} {a : Nat}
theorem fz_oi (X : fz_X p s m meth c own cc n ret g A) {lv : List (Nat × Value)} (hl : lv_has ls n lv) {idx : Nat} (hlk : fz_M (.methodLink own idx objectInit)) (hi : fz_M (.instanceMethod objectInit)) (hc : fz_M (.code objectInit ⟨#[0xb1]⟩ 1 none)) (hf : 1 ≤ R.frames) (hlo : 2 * (F0 m pc ls (.ref a :: rest)).monitorRoom + (rest.map fun v => v.category).sum + 12 ≤ R.locals) (hdg : decode cc pc = .ok (.invokespecial idx, 3))
    (kk : W p l e R s m args below meth c H locs cells slots Q (F0 m (pc + 3) ls rest)) : W p l e R s m args below meth c H locs cells slots Q (F0 m pc ls (.ref a :: rest)) :=
  W.objInit X.1 X.2.1 X.2.2.2.2.1 (X.2.2.2.2.2.2.1.use hlk args) (X.2.2.2.2.2.2.1.use hi args) (X.2.2.2.2.2.2.1.use hc args) rfl (by rw [X.2.2.2.1]; exact hl.1) rfl hdg hf hlo kk
theorem fz_nw (X : fz_X p s m meth c own cc n ret g A) (hW : fz_W g A s ws H locs) {C : String} {T : u_T} {N ci index : Nat} (hin : ∀ w ∈ u_ws C T N, fz_M w) (hc : classes[ci]? = some (C, T, N)) (ty : Nat → FieldType) (hty : ∀ k, k < N → parseFieldDescriptor (T k).2.2.1 = some (ty k)) (hcl : fz_M (.classLink own index C)) (hinst : fz_M (.instantiable C N)) (hini : fz_M (.initialized C)) {fs : List Value} (hfs : ∀ j, j < N → defaultValue (ty j) = vp_V fs j) (hcells : cells + 1 ≤ R.cells) (hslots : slots + N ≤ R.slots) (hdg : decode cc pc = .ok (.new index, 3))
    (kk : ∀ (q : Nat) (H1 : Heap), fz_W g A s (ws ++ [(q, .inr (ci, fs))]) H1 locs → W p l e R s m args below meth c H1 locs (cells + 1) (slots + N) Q (F0 m (pc + 3) ls (.ref q :: rest))) : W p l e R s m args below meth c H locs cells slots Q (F0 m pc ls rest) :=
  va_new (D := g.1) (Ts := u_ws C T N) X.1 X.2.1 (fun w hw => X.2.2.2.2.2.2.1.use (hin w hw) args) (fun _ h => h) ty hty X.2.2.2.2.1 (X.2.2.2.2.2.2.1.use hcl args) (X.2.2.2.2.2.2.1.use hinst args) (X.2.2.2.2.2.2.1.use hini args) X.2.2.2.2.2.2.1.1 hW.1 hW.2.1 hW.2.2 X.2.2.2.2.2.2.2 hc hfs hcells hslots hdg (fun q H1 h1 h2 h3 => kk q H1 ⟨h1, h2, h3⟩)
theorem fz_ni (X : fz_X p s m meth c own cc n ret g A) (hW : fz_W g A s ws H locs) {atype : ArrayType} {ty : FieldType} (hat : newarray.typeOf atype = ty) (harr : fz_M (.arrayClass (newarray.typeOf atype))) (t0 : Nat) {cT : ClassId} (ht : (fz_tys g)[t0]? = some (cT, ty)) (hra : ∀ (U : State) (cA : ClassId), va_RA U cA ty → U.vm.findClass ("[" ++ ty.toString) = some cA) {k0 : Int32} {N' : Nat} {a0 : vp_A} (ha : ∀ cA : ClassId, vp_cell cA a0 = arrV cA N' (fun _ => defaultValue ty)) (hn : ¬ k0 < 0) (hN : k0.toNatClampNeg = N') (hbytes : N' * componentBytes ty ≤ 536870912) (hcells : cells + 1 ≤ R.cells) (hslots : slots + N' ≤ R.slots) (hdg : decode cc pc = .ok (.newarray atype, 2))
    (kk : ∀ (q : Nat) (H1 : Heap), fz_W g A s (ws ++ [(q, .inl (cT, a0))]) H1 locs → W p l e R s m args below meth c H1 locs (cells + 1) (slots + N') Q (F0 m (pc + 2) ls (.ref q :: rest))) : W p l e R s m args below meth c H locs cells slots Q (F0 m pc ls (.int k0 :: rest)) :=
  va_newa X.1 X.2.1 (X.2.2.2.2.2.2.1.use harr args) hat X.2.2.2.2.2.2.1.1 hW.1 hW.2.1 hW.2.2 X.2.2.2.2.2.2.2 ha hn hN hbytes hcells hslots hdg (fun q cA H1 hK h1 h2 h3 => by
    have e1 := hra _ _ (hK.2 4 (cA, ty) rfl).2
    have e2 := hra _ _ (X.2.2.2.2.2.2.1.1.2 t0 _ ht).2
    have e3 : cA = cT := Option.some.inj (e1.symm.trans e2)
    subst e3
    exact kk q H1 ⟨h1, h2, h3⟩)
theorem fz_nq (X : fz_X p s m meth c own cc n ret g A) (hW : fz_W g A s ws H locs) {C : String} {index : Nat} (hcl : fz_M (.classLink own index C)) (hov : fz_M (.arrayOver (.object C))) (t0 : Nat) {cT : ClassId} (ht : (fz_tys g)[t0]? = some (cT, .object C)) {k0 : Int32} {N' : Nat} (hn : ¬ k0 < 0) (hN : k0.toNatClampNeg = N') (hbytes : N' * 4 ≤ 536870912) (hcells : cells + 1 ≤ R.cells) (hslots : slots + N' ≤ R.slots) (hdg : decode cc pc = .ok (.anewarray index, 3))
    (kk : ∀ (q : Nat) (H1 : Heap), fz_W g A s (ws ++ [(q, .inl (cT, N', .inr (.inr (.inr (.inr (fun _ => none))))))]) H1 locs → W p l e R s m args below meth c H1 locs (cells + 1) (slots + N') Q (F0 m (pc + 3) ls (.ref q :: rest))) : W p l e R s m args below meth c H locs cells slots Q (F0 m pc ls (.int k0 :: rest)) :=
  va_newq X.1 X.2.1 X.2.2.2.2.1 (X.2.2.2.2.2.2.1.use hcl args) (va_AO.of (X.2.2.2.2.2.2.1.use hov args)) X.2.2.2.2.2.2.1.1 hW.1 hW.2.1 hW.2.2 X.2.2.2.2.2.2.2 hn hN hbytes hcells hslots hdg (fun q cA H1 hK h1 h2 h3 => by
    obtain ⟨_, _, -, -, -, e1⟩ := (hK.2 4 (cA, .object C) rfl).2
    obtain ⟨_, _, -, -, -, e2⟩ := (X.2.2.2.2.2.2.1.1.2 t0 _ ht).2
    have e3 : cA = cT := Option.some.inj (e1.symm.trans e2)
    subst e3
    exact kk q H1 ⟨h1, h2, h3⟩)
theorem fz_sq (X : fz_X p s m meth c own cc n ret g A) (hW : fz_W g A s ws H locs) (q0 t qk ci : Nat) {r : vw_C} {v : Nat} {vs : List Value} {N : Nat} {f : Nat → Option Nat} (ha : ws[q0]? = some (a, .inl (g.2 3, N, .inr (.inr (.inr (.inr f)))))) (hr : r.1 = "FarScreen$BlockMove") (hv : ws[qk]? = some (v, .inr (ci, vs))) (hc : classes[ci]? = some r) {i : Int32} (hi : i = nI t) (ht : t < N) (hN : N < 2 ^ 31) (hdg : decode cc pc = .ok (.aastore, 1))
    (kk : ∀ (H1 : Heap) (locs1 : List Loc), fz_W g A s (ws.set q0 (a, .inl (g.2 3, N, .inr (.inr (.inr (.inr (va_up f t (some v)))))))) H1 locs1 → W p l e R s m args below meth c H1 locs1 cells slots Q (F0 m (pc + 1) ls rest)) : W p l e R s m args below meth c H locs cells slots Q (F0 m pc ls (.ref v :: .int i :: .ref a :: rest)) := by
  subst hi
  have ec : (nI t).toNatClampNeg = t := nI_clamp (by omega)
  refine va_astq X.1 X.2.1 X.2.2.2.2.2.2.1.1 hW.1 hW.2.1 hW.2.2 q0 3 qk ci ha (by rw [hr]; rfl) hv hc ?_ hdg (fun H1 locs1 h1 h2 h3 => ?_)
  · unfold vp_in
    rw [ec]
    exact fun z => z.elim (fun z => absurd z (Int32.not_lt.mpr ((nI_leI (a := 0) (b := t) (by omega) (by omega)).mpr (Nat.zero_le _)))) (fun z => absurd z (by omega))
  · rw [ec] at h1 h2
    exact kk H1 locs1 ⟨h1, h2, h3⟩
theorem fz_qf (X : fz_X p s m meth c own cc n ret g A) (hname : meth.name = "<init>") (hW : fz_W g A s ws H locs) {C : String} {T : u_T} {N ci index : Nat} (hin : ∀ w ∈ u_ws C T N, fz_M w) (hc : classes[ci]? = some (C, T, N)) (ty0 : Nat → FieldType) (hty : ∀ k, k < N → parseFieldDescriptor (T k).2.2.1 = some (ty0 k)) (hnm : ∀ a, a < N → ∀ b, b < N → a ≠ b → (T a).2.1 ≠ (T b).2.1) (k : Nat) (hk : k < N) (hlink : fz_M (.fieldLink own index C (T k).2.1 (T k).2.2.1)) (hT : (T k).1 = C) (hO : (T k).1 = own) (hfin : (T k).2.2.2 = true) {v : Value} (hnr : narrow (ty0 k) v = v) (hfit : fits (ty0 k) v = true) (q0 : Nat) {fs : List Value} (he : ws[q0]? = some (a, .inr (ci, fs))) (hl : k < fs.length) (hdg : decode cc pc = .ok (.putfield index, 3))
    (kk : ∀ (H1 : Heap) (locs1 : List Loc), fz_W g A s (ws.set q0 (a, .inr (ci, fs.set k v))) H1 locs1 → W p l e R s m args below meth c H1 locs1 cells slots Q (F0 m (pc + 3) ls rest)) : W p l e R s m args below meth c H locs cells slots Q (F0 m pc ls (v :: .ref a :: rest)) :=
  va_putF (D := g.1) (Ts := u_ws C T N) X.1 X.2.1 (fun w hw => X.2.2.2.2.2.2.1.use (hin w hw) args) (fun _ h => h) ty0 hty hnm X.2.2.2.2.1 X.2.2.2.2.2.2.1.1 hW.1 hW.2.1 hW.2.2 q0 he hc k hk (X.2.2.2.2.2.2.1.use hlink args) (fun _ h9 => by rw [hT] at h9; exact h9) hfin hname hO (hty k hk) hnr hfit hl hdg (fun H1 locs1 h1 h2 h3 => kk H1 locs1 ⟨h1, h2, h3⟩)
theorem fz_backN (X : fz_X p s m meth c own cc n ret g A) (hW : fz_W g A s ws H locs) {wc wr : va_W} {K : va_W → Prop} (isC isR : List Nat) (hC : isC.map (fun i => ws[i]?) = wc.map some) (hR : isR.map (fun i => ws[i]?) = wr.map some) (hnd : va_nd isR = true) (hdis : ∀ i ∈ isR, i ∉ isC) {mc ms : Nat} {st0 : List Value} {av : Array Value} (hr : va_Run p l e R s m args below meth c H locs cells slots mc ms (F0 m pc ls st0) rest (fz_QN g K (va_A wc H.size) av) (va_A wc H.size))
    (kk : ∀ (W1 : va_W) (H1 : Heap) (locs1 : List Loc), K W1 → fz_W g A s (wr ++ W1) H1 locs1 → W p l e R s m args below meth c H1 locs1 (cells + mc) (slots + ms) Q (F0 m (pc + 3) ls rest)) : W p l e R s m args below meth c H locs cells slots Q (F0 m pc ls st0) := by
  obtain ⟨-, -, -, -, -, -, hE, hA⟩ := X
  have hF := va_free (wc := wc) hW.2.1 hW.2.2 hA isC hC
  intro T hT Y
  obtain ⟨v', st₀, t, T', L, h0, X', hL, e1, e2, ⟨⟨hv, W1, hK1, hP, hD⟩, hz, hk⟩, st⟩ := hr T hT Y
  cases hv
  rw [h0] at hz hk
  obtain ⟨j1, j2⟩ := va_join (wr := wr) (w1 := W1) hW.1 hW.2.1 isC isR hC hR hnd hdis hk hF hP hD
  obtain ⟨t2, a1, b1⟩ := kk W1 T'.heap (locs ++ L) hK1 ⟨by rw [e1]; exact j1, j2, Nat.le_trans hW.2.2.1 (by rw [e1]; exact hz), fun q h1 h2 => by rw [e1, hk q (Nat.lt_of_lt_of_le h1 hW.2.2.1) (fun z => h2 (hF q z))]; exact hW.2.2.2.1 q h1 h2, fun q hq => by
      rcases List.mem_append.mp hq with h | h
      · exact hW.2.2.2.2 q h
      · exact hF _ (hL q h)⟩ T' rfl X'
  exact ⟨t2, st t2 a1, b1⟩
theorem fz_preN (X : fz_X p s m meth c own cc n ret g A) (hW : fz_W g A s ws H locs) {wc : va_W} (isC : List Nat) (hC : isC.map (fun i => ws[i]?) = wc.map some) (hc : va_nd isC = true) (as : List Value) : ∀ U : State, U.heap = H → s.WarmedH U.vm → fz_P g as wc H.size as.toArray U := by
  obtain ⟨-, -, -, -, -, -, hE, -⟩ := X
  intro U hU hw
  exact ⟨rfl, by rw [hU], by rw [hU]; exact fz_P.pick hW.1 isC hC, fz_E.warm hw hE, (hW.2.1.sub isC hc hC).weaken (fun _ _ _ _ => trivial)⟩
theorem fz_cI (X : fz_X p s m meth c own cc n ret g A) (hW : fz_W g A s ws H locs) {y : MethodName} {b : ByteArray} {n' rf rc rs rl idx o : Nat} {wc wr : va_W} {K : va_W → Prop} {lv : List (Nat × Value)} (isC isR : List Nat)
    (hM : fz_CN l g y b n' rf rc rs rl [.ref o] wc K) (hL : fz_LI own idx y b n') (hC : isC.map (fun i => ws[i]?) = wc.map some) (hc : va_nd isC = true) (hR : isR.map (fun i => ws[i]?) = wr.map some) (hnd : va_nd isR = true) (hdis : ∀ i ∈ isR, i ∉ isC) (hRm : rf + 1 ≤ R.frames ∧ 8 + (n' + 11) + rl ≤ R.locals) (hl : lv_has ls n lv) (hrm : (rest.map fun v => v.category).sum ≤ 8) (hdg : decode cc pc = .ok (.invokespecial idx, 3)) (hcs : cells + rc ≤ R.cells ∧ slots + rs ≤ R.slots)
    (kk : ∀ (W1 : va_W) (H1 : Heap) (locs1 : List Loc), K W1 → fz_W g A s (wr ++ W1) H1 locs1 → W p l e R s m args below meth c H1 locs1 (cells + rc) (slots + rs) Q (F0 m (pc + 3) ls rest)) : W p l e R s m args below meth c H locs cells slots Q (F0 m pc ls (.ref o :: rest)) := by
  have hE := X.2.2.2.2.2.2.1
  refine fz_backN X hW isC isR hC hR hnd hdis (va_runI (y := y) (n := 0) (Ts := []) (As := []) ⟨X.1, X.2.1, X.2.2.2.1, X.2.2.2.2.1, fun _ h => absurd h List.not_mem_nil⟩ (hM H.size) ⟨fz_callB X hL.1 hL.2.1 hRm, hL.2.2.2, hE.use hL.2.2.1 _⟩ ⟨fz_P.blind, fz_preN X hW isC hC hc _⟩ rfl rfl hl.1 rfl (lv_room hrm) hdg hcs) kk
theorem fz_cJ (X : fz_X p s m meth c own cc n ret g A) (hW : fz_W g A s ws H locs) {y : MethodName} {b : ByteArray} {n' rf rc rs rl idx o : Nat} {wc wr : va_W} {K : va_W → Prop} {lv : List (Nat × Value)} (isC isR : List Nat)
    (hM : fz_CN l g y b n' rf rc rs rl [.ref o] wc K) (hL : fz_LJ own idx y b n') (hC : isC.map (fun i => ws[i]?) = wc.map some) (hc : va_nd isC = true) (hR : isR.map (fun i => ws[i]?) = wr.map some) (hnd : va_nd isR = true) (hdis : ∀ i ∈ isR, i ∉ isC) (hRm : rf + 1 ≤ R.frames ∧ 8 + (n' + 11) + rl ≤ R.locals) (hl : lv_has ls n lv) (hrm : (rest.map fun v => v.category).sum ≤ 8) (hdg : decode cc pc = .ok (.invokespecial idx, 3)) (hcs : cells + rc ≤ R.cells ∧ slots + rs ≤ R.slots)
    (kk : ∀ (W1 : va_W) (H1 : Heap) (locs1 : List Loc), K W1 → fz_W g A s (wr ++ W1) H1 locs1 → W p l e R s m args below meth c H1 locs1 (cells + rc) (slots + rs) Q (F0 m (pc + 3) ls rest)) : W p l e R s m args below meth c H locs cells slots Q (F0 m pc ls (.ref o :: rest)) := by
  have hE := X.2.2.2.2.2.2.1
  obtain ⟨hB, ⟨host, hl1⟩, hi1, hn1⟩ := hL
  refine fz_backN X hW isC isR hC hR hnd hdis (va_runIN (y := y) (n := 0) (Ts := []) (As := []) ⟨X.1, X.2.1, X.2.2.2.1, X.2.2.2.2.1, fun _ h => absurd h List.not_mem_nil⟩ (hM H.size) ⟨fz_callN X hB hl1 hRm, hn1, hE.use hi1 _⟩ ⟨fz_P.blind, fz_preN X hW isC hC hc _⟩ rfl rfl hl.1 rfl (lv_room hrm) hdg hcs) kk
theorem fz_rvN (X : fz_X p s m meth c own cc n none g A) {K : va_W → Prop} {mc ms : Nat} (hW : fz_W g A s ws H locs) (hK : K ws) (hcs : cells ≤ mc ∧ slots ≤ ms) (hdg : decode cc pc = .ok (.return_, 1)) : W p l e R s m args below meth c H locs cells slots (MQ below (fz_QN g K A) args s mc ms A) (F0 m pc ls []) :=
  W.widen hcs.1 hcs.2 (W.vret X.1 X.2.1 X.2.2.1 (fun t ht _ => ⟨⟨rfl, ws, hK, by rw [ht]; exact hW.1, hW.2.1⟩, hW.2.2.F ht⟩) hW.2.2.2.2 hdg X.2.2.2.2.2.1)
end FN

theorem oi_i : fz_M (.instanceMethod objectInit) := ⟨List.mem_of_getElem? (i := 34) (by decide +kernel), by decide +kernel⟩
theorem oi_c : fz_M (.code objectInit ⟨#[0xb1]⟩ 1 none) := ⟨List.mem_of_getElem? (i := 35) (by decide +kernel), by decide +kernel⟩
theorem ar_i : fz_M (.arrayClass .int) := ⟨List.mem_of_getElem? (i := 59) (by decide +kernel), by decide +kernel⟩
theorem ar_q : fz_M (.arrayOver (.object "FarScreen$BlockMove")) := ⟨List.mem_of_getElem? (i := 43) (by decide +kernel), by decide +kernel⟩
theorem oi_X0 : fz_M (.methodLink RX0 3 objectInit) := ⟨List.mem_of_getElem? (i := 64) (by decide +kernel), by decide +kernel⟩
theorem oi_X1 : fz_M (.methodLink RX1 3 objectInit) := ⟨List.mem_of_getElem? (i := 49) (by decide +kernel), by decide +kernel⟩
theorem oi_X2 : fz_M (.methodLink RX2 3 objectInit) := ⟨List.mem_of_getElem? (i := 41) (by decide +kernel), by decide +kernel⟩
theorem oi_X3 : fz_M (.methodLink RX3 1 objectInit) := ⟨List.mem_of_getElem? (i := 33) (by decide +kernel), by decide +kernel⟩
theorem cl_L_29 : fz_M (.classLink "FarScreenLaw" 29 "FarScreen") := ⟨List.mem_of_getElem? (i := 28) (by decide +kernel), by decide +kernel⟩
theorem ib_X3 : fz_M (.instantiable RX3 2) := ⟨List.mem_of_getElem? (i := 29) (by decide +kernel), by decide +kernel⟩
theorem cl_X3_7 : fz_M (.classLink "FarScreen" 7 "FarScreen$Sender") := ⟨List.mem_of_getElem? (i := 36) (by decide +kernel), by decide +kernel⟩
theorem ib_X2 : fz_M (.instantiable RX2 14) := ⟨List.mem_of_getElem? (i := 37) (by decide +kernel), by decide +kernel⟩
theorem cl_X2_33 : fz_M (.classLink "FarScreen$Sender" 33 "FarScreen$BlockMove") := ⟨List.mem_of_getElem? (i := 42) (by decide +kernel), by decide +kernel⟩
theorem cl_X2_43 : fz_M (.classLink "FarScreen$Sender" 43 "FarScreen$KnownRow") := ⟨List.mem_of_getElem? (i := 44) (by decide +kernel), by decide +kernel⟩
theorem ib_X1 : fz_M (.instantiable RX1 2) := ⟨List.mem_of_getElem? (i := 45) (by decide +kernel), by decide +kernel⟩
theorem ib_X0 : fz_M (.instantiable RX0 6) := ⟨List.mem_of_getElem? (i := 60) (by decide +kernel), by decide +kernel⟩
theorem ii_X0 : fz_M (.initialized RX0) := ⟨List.mem_of_getElem? (i := 18) (by decide +kernel), by decide +kernel⟩
theorem ii_X1 : fz_M (.initialized RX1) := ⟨List.mem_of_getElem? (i := 17) (by decide +kernel), by decide +kernel⟩
theorem ii_X2 : fz_M (.initialized RX2) := ⟨List.mem_of_getElem? (i := 16) (by decide +kernel), by decide +kernel⟩
theorem ii_X3 : fz_M (.initialized RX3) := ⟨List.mem_of_getElem? (i := 15) (by decide +kernel), by decide +kernel⟩
theorem nw_50 : fz_M (.fieldLink RX1 9 RX1 (TX1 0).2.1 (TX1 0).2.2.1) := ⟨List.mem_of_getElem? (i := 50) (by decide +kernel), by decide +kernel⟩
theorem nw_84 : fz_M (.fieldLink RX2 9 RX2 (TX2 0).2.1 (TX2 0).2.2.1) := ⟨List.mem_of_getElem? (i := 84) (by decide +kernel), by decide +kernel⟩
theorem nw_86 : fz_M (.fieldLink RX2 15 RX2 (TX2 1).2.1 (TX2 1).2.2.1) := ⟨List.mem_of_getElem? (i := 86) (by decide +kernel), by decide +kernel⟩
theorem nw_88 : fz_M (.fieldLink RX2 18 RX2 (TX2 2).2.1 (TX2 2).2.2.1) := ⟨List.mem_of_getElem? (i := 88) (by decide +kernel), by decide +kernel⟩
theorem nw_90 : fz_M (.fieldLink RX2 21 RX2 (TX2 3).2.1 (TX2 3).2.2.1) := ⟨List.mem_of_getElem? (i := 90) (by decide +kernel), by decide +kernel⟩
theorem nw_91 : fz_M (.fieldLink RX2 24 RX2 (TX2 4).2.1 (TX2 4).2.2.1) := ⟨List.mem_of_getElem? (i := 91) (by decide +kernel), by decide +kernel⟩
theorem nw_92 : fz_M (.fieldLink RX2 27 RX2 (TX2 5).2.1 (TX2 5).2.2.1) := ⟨List.mem_of_getElem? (i := 92) (by decide +kernel), by decide +kernel⟩
theorem nw_93 : fz_M (.fieldLink RX2 30 RX2 (TX2 6).2.1 (TX2 6).2.2.1) := ⟨List.mem_of_getElem? (i := 93) (by decide +kernel), by decide +kernel⟩
theorem nw_94 : fz_M (.fieldLink RX2 35 RX2 (TX2 7).2.1 (TX2 7).2.2.1) := ⟨List.mem_of_getElem? (i := 94) (by decide +kernel), by decide +kernel⟩
theorem nw_97 : fz_M (.fieldLink RX2 46 RX2 (TX2 9).2.1 (TX2 9).2.2.1) := ⟨List.mem_of_getElem? (i := 97) (by decide +kernel), by decide +kernel⟩
theorem nw_99 : fz_M (.fieldLink RX2 50 RX2 (TX2 10).2.1 (TX2 10).2.2.1) := ⟨List.mem_of_getElem? (i := 99) (by decide +kernel), by decide +kernel⟩
theorem nw_136 : fz_M (.fieldLink RX3 10 RX3 (TX3 0).2.1 (TX3 0).2.2.1) := ⟨List.mem_of_getElem? (i := 136) (by decide +kernel), by decide +kernel⟩
theorem nw_137 : fz_M (.fieldLink RX3 16 RX3 (TX3 1).2.1 (TX3 1).2.2.1) := ⟨List.mem_of_getElem? (i := 137) (by decide +kernel), by decide +kernel⟩
section FQL
variable {p : Program} {l : Launch} {e : Env} {R : Room} {s : State} {m : MethodId} {args : Array Value} {below : List Frame} {meth : Method} {c : Code} {H : Heap} {locs : List Loc} {cells slots : Nat} {Q : State → Prop}
variable {cc : ByteArray} {n : Nat} {ret : Option FieldType} {g : GG} {A : Nat → Prop} {ws : va_W} {pc : Nat} {ls : Array Slot} {rest : List Value} {a : Nat}
theorem qf_X1_9 (X : fz_X p s m meth c RX1 cc n ret g A) (hin : meth.name = "<init>") (hW : fz_W g A s ws H locs) (q0 : Nat) {fs : List Value} (he : ws[q0]? = some (a, .inr (1, fs))) {x : Nat} (hl : 0 < fs.length) (hdg : decode cc pc = .ok (.putfield 9, 3)) (kk : ∀ (H1 : Heap) (locs1 : List Loc), fz_W g A s (ws.set q0 (a, .inr (1, fs.set 0 (.ref x)))) H1 locs1 → W p l e R s m args below meth c H1 locs1 cells slots Q (F0 m (pc + 3) ls rest)) : W p l e R s m args below meth c H locs cells slots Q (F0 m pc ls (.ref x :: .ref a :: rest)) := fz_qf X hin hW inX1 rfl tyX1 tyX1_ok nmX1 0 (by decide) nw_50 rfl rfl rfl rfl rfl q0 he hl hdg kk
theorem qf_X2_9 (X : fz_X p s m meth c RX2 cc n ret g A) (hin : meth.name = "<init>") (hW : fz_W g A s ws H locs) (q0 : Nat) {fs : List Value} (he : ws[q0]? = some (a, .inr (2, fs))) {x : Nat} (hl : 0 < fs.length) (hdg : decode cc pc = .ok (.putfield 9, 3)) (kk : ∀ (H1 : Heap) (locs1 : List Loc), fz_W g A s (ws.set q0 (a, .inr (2, fs.set 0 (.ref x)))) H1 locs1 → W p l e R s m args below meth c H1 locs1 cells slots Q (F0 m (pc + 3) ls rest)) : W p l e R s m args below meth c H locs cells slots Q (F0 m pc ls (.ref x :: .ref a :: rest)) := fz_qf X hin hW inX2 rfl tyX2 tyX2_ok nmX2 0 (by decide) nw_84 rfl rfl rfl rfl rfl q0 he hl hdg kk
theorem qf_X2_15 (X : fz_X p s m meth c RX2 cc n ret g A) (hin : meth.name = "<init>") (hW : fz_W g A s ws H locs) (q0 : Nat) {fs : List Value} (he : ws[q0]? = some (a, .inr (2, fs))) {x : Nat} (hl : 1 < fs.length) (hdg : decode cc pc = .ok (.putfield 15, 3)) (kk : ∀ (H1 : Heap) (locs1 : List Loc), fz_W g A s (ws.set q0 (a, .inr (2, fs.set 1 (.ref x)))) H1 locs1 → W p l e R s m args below meth c H1 locs1 cells slots Q (F0 m (pc + 3) ls rest)) : W p l e R s m args below meth c H locs cells slots Q (F0 m pc ls (.ref x :: .ref a :: rest)) := fz_qf X hin hW inX2 rfl tyX2 tyX2_ok nmX2 1 (by decide) nw_86 rfl rfl rfl rfl rfl q0 he hl hdg kk
theorem qf_X2_18 (X : fz_X p s m meth c RX2 cc n ret g A) (hin : meth.name = "<init>") (hW : fz_W g A s ws H locs) (q0 : Nat) {fs : List Value} (he : ws[q0]? = some (a, .inr (2, fs))) {x : Nat} (hl : 2 < fs.length) (hdg : decode cc pc = .ok (.putfield 18, 3)) (kk : ∀ (H1 : Heap) (locs1 : List Loc), fz_W g A s (ws.set q0 (a, .inr (2, fs.set 2 (.ref x)))) H1 locs1 → W p l e R s m args below meth c H1 locs1 cells slots Q (F0 m (pc + 3) ls rest)) : W p l e R s m args below meth c H locs cells slots Q (F0 m pc ls (.ref x :: .ref a :: rest)) := fz_qf X hin hW inX2 rfl tyX2 tyX2_ok nmX2 2 (by decide) nw_88 rfl rfl rfl rfl rfl q0 he hl hdg kk
theorem qf_X2_21 (X : fz_X p s m meth c RX2 cc n ret g A) (hin : meth.name = "<init>") (hW : fz_W g A s ws H locs) (q0 : Nat) {fs : List Value} (he : ws[q0]? = some (a, .inr (2, fs))) {x : Nat} (hl : 3 < fs.length) (hdg : decode cc pc = .ok (.putfield 21, 3)) (kk : ∀ (H1 : Heap) (locs1 : List Loc), fz_W g A s (ws.set q0 (a, .inr (2, fs.set 3 (.ref x)))) H1 locs1 → W p l e R s m args below meth c H1 locs1 cells slots Q (F0 m (pc + 3) ls rest)) : W p l e R s m args below meth c H locs cells slots Q (F0 m pc ls (.ref x :: .ref a :: rest)) := fz_qf X hin hW inX2 rfl tyX2 tyX2_ok nmX2 3 (by decide) nw_90 rfl rfl rfl rfl rfl q0 he hl hdg kk
theorem qf_X2_24 (X : fz_X p s m meth c RX2 cc n ret g A) (hin : meth.name = "<init>") (hW : fz_W g A s ws H locs) (q0 : Nat) {fs : List Value} (he : ws[q0]? = some (a, .inr (2, fs))) {x : Nat} (hl : 4 < fs.length) (hdg : decode cc pc = .ok (.putfield 24, 3)) (kk : ∀ (H1 : Heap) (locs1 : List Loc), fz_W g A s (ws.set q0 (a, .inr (2, fs.set 4 (.ref x)))) H1 locs1 → W p l e R s m args below meth c H1 locs1 cells slots Q (F0 m (pc + 3) ls rest)) : W p l e R s m args below meth c H locs cells slots Q (F0 m pc ls (.ref x :: .ref a :: rest)) := fz_qf X hin hW inX2 rfl tyX2 tyX2_ok nmX2 4 (by decide) nw_91 rfl rfl rfl rfl rfl q0 he hl hdg kk
theorem qf_X2_27 (X : fz_X p s m meth c RX2 cc n ret g A) (hin : meth.name = "<init>") (hW : fz_W g A s ws H locs) (q0 : Nat) {fs : List Value} (he : ws[q0]? = some (a, .inr (2, fs))) {x : Nat} (hl : 5 < fs.length) (hdg : decode cc pc = .ok (.putfield 27, 3)) (kk : ∀ (H1 : Heap) (locs1 : List Loc), fz_W g A s (ws.set q0 (a, .inr (2, fs.set 5 (.ref x)))) H1 locs1 → W p l e R s m args below meth c H1 locs1 cells slots Q (F0 m (pc + 3) ls rest)) : W p l e R s m args below meth c H locs cells slots Q (F0 m pc ls (.ref x :: .ref a :: rest)) := fz_qf X hin hW inX2 rfl tyX2 tyX2_ok nmX2 5 (by decide) nw_92 rfl rfl rfl rfl rfl q0 he hl hdg kk
theorem qf_X2_30 (X : fz_X p s m meth c RX2 cc n ret g A) (hin : meth.name = "<init>") (hW : fz_W g A s ws H locs) (q0 : Nat) {fs : List Value} (he : ws[q0]? = some (a, .inr (2, fs))) {x : Nat} (hl : 6 < fs.length) (hdg : decode cc pc = .ok (.putfield 30, 3)) (kk : ∀ (H1 : Heap) (locs1 : List Loc), fz_W g A s (ws.set q0 (a, .inr (2, fs.set 6 (.ref x)))) H1 locs1 → W p l e R s m args below meth c H1 locs1 cells slots Q (F0 m (pc + 3) ls rest)) : W p l e R s m args below meth c H locs cells slots Q (F0 m pc ls (.ref x :: .ref a :: rest)) := fz_qf X hin hW inX2 rfl tyX2 tyX2_ok nmX2 6 (by decide) nw_93 rfl rfl rfl rfl rfl q0 he hl hdg kk
theorem qf_X2_35 (X : fz_X p s m meth c RX2 cc n ret g A) (hin : meth.name = "<init>") (hW : fz_W g A s ws H locs) (q0 : Nat) {fs : List Value} (he : ws[q0]? = some (a, .inr (2, fs))) {x : Nat} (hl : 7 < fs.length) (hdg : decode cc pc = .ok (.putfield 35, 3)) (kk : ∀ (H1 : Heap) (locs1 : List Loc), fz_W g A s (ws.set q0 (a, .inr (2, fs.set 7 (.ref x)))) H1 locs1 → W p l e R s m args below meth c H1 locs1 cells slots Q (F0 m (pc + 3) ls rest)) : W p l e R s m args below meth c H locs cells slots Q (F0 m pc ls (.ref x :: .ref a :: rest)) := fz_qf X hin hW inX2 rfl tyX2 tyX2_ok nmX2 7 (by decide) nw_94 rfl rfl rfl rfl rfl q0 he hl hdg kk
theorem qf_X2_46 (X : fz_X p s m meth c RX2 cc n ret g A) (hin : meth.name = "<init>") (hW : fz_W g A s ws H locs) (q0 : Nat) {fs : List Value} (he : ws[q0]? = some (a, .inr (2, fs))) {x : Nat} (hl : 9 < fs.length) (hdg : decode cc pc = .ok (.putfield 46, 3)) (kk : ∀ (H1 : Heap) (locs1 : List Loc), fz_W g A s (ws.set q0 (a, .inr (2, fs.set 9 (.ref x)))) H1 locs1 → W p l e R s m args below meth c H1 locs1 cells slots Q (F0 m (pc + 3) ls rest)) : W p l e R s m args below meth c H locs cells slots Q (F0 m pc ls (.ref x :: .ref a :: rest)) := fz_qf X hin hW inX2 rfl tyX2 tyX2_ok nmX2 9 (by decide) nw_97 rfl rfl rfl rfl rfl q0 he hl hdg kk
theorem qf_X2_50 (X : fz_X p s m meth c RX2 cc n ret g A) (hin : meth.name = "<init>") (hW : fz_W g A s ws H locs) (q0 : Nat) {fs : List Value} (he : ws[q0]? = some (a, .inr (2, fs))) {x : Nat} (hl : 10 < fs.length) (hdg : decode cc pc = .ok (.putfield 50, 3)) (kk : ∀ (H1 : Heap) (locs1 : List Loc), fz_W g A s (ws.set q0 (a, .inr (2, fs.set 10 (.ref x)))) H1 locs1 → W p l e R s m args below meth c H1 locs1 cells slots Q (F0 m (pc + 3) ls rest)) : W p l e R s m args below meth c H locs cells slots Q (F0 m pc ls (.ref x :: .ref a :: rest)) := fz_qf X hin hW inX2 rfl tyX2 tyX2_ok nmX2 10 (by decide) nw_99 rfl rfl rfl rfl rfl q0 he hl hdg kk
theorem qf_X3_10 (X : fz_X p s m meth c RX3 cc n ret g A) (hin : meth.name = "<init>") (hW : fz_W g A s ws H locs) (q0 : Nat) {fs : List Value} (he : ws[q0]? = some (a, .inr (3, fs))) {x : Nat} (hl : 0 < fs.length) (hdg : decode cc pc = .ok (.putfield 10, 3)) (kk : ∀ (H1 : Heap) (locs1 : List Loc), fz_W g A s (ws.set q0 (a, .inr (3, fs.set 0 (.ref x)))) H1 locs1 → W p l e R s m args below meth c H1 locs1 cells slots Q (F0 m (pc + 3) ls rest)) : W p l e R s m args below meth c H locs cells slots Q (F0 m pc ls (.ref x :: .ref a :: rest)) := fz_qf X hin hW inX3 rfl tyX3 tyX3_ok nmX3 0 (by decide) nw_136 rfl rfl rfl rfl rfl q0 he hl hdg kk
theorem qf_X3_16 (X : fz_X p s m meth c RX3 cc n ret g A) (hin : meth.name = "<init>") (hW : fz_W g A s ws H locs) (q0 : Nat) {fs : List Value} (he : ws[q0]? = some (a, .inr (3, fs))) {x : Nat} (hl : 1 < fs.length) (hdg : decode cc pc = .ok (.putfield 16, 3)) (kk : ∀ (H1 : Heap) (locs1 : List Loc), fz_W g A s (ws.set q0 (a, .inr (3, fs.set 1 (.ref x)))) H1 locs1 → W p l e R s m args below meth c H1 locs1 cells slots Q (F0 m (pc + 3) ls rest)) : W p l e R s m args below meth c H locs cells slots Q (F0 m pc ls (.ref x :: .ref a :: rest)) := fz_qf X hin hW inX3 rfl tyX3 tyX3_ok nmX3 1 (by decide) nw_137 rfl rfl rfl rfl rfl q0 he hl hdg kk
end FQL
theorem nw_46 : fz_M (.methodLinkNest RX2 45 yX1_init "FarScreen") := ⟨List.mem_of_getElem? (i := 46) (by decide +kernel), by decide +kernel⟩
theorem nw_48 : fz_M (.code yX1_init cX1_init 1 none) := ⟨List.mem_of_getElem? (i := 48) (by decide +kernel), by decide +kernel⟩
theorem nw_47 : fz_M (.instanceMethod yX1_init) := ⟨List.mem_of_getElem? (i := 47) (by decide +kernel), by decide +kernel⟩
theorem lk_X2_45 : fz_LJ RX2 45 yX1_init cX1_init 1 := ⟨⟨ii_X1, nw_48, by decide +kernel, by decide +kernel, by decide +kernel⟩, ⟨_, nw_46⟩, nw_47, rfl⟩
theorem nw_61 : fz_M (.methodLinkNest RX2 62 yX0_init "FarScreen") := ⟨List.mem_of_getElem? (i := 61) (by decide +kernel), by decide +kernel⟩
theorem nw_63 : fz_M (.code yX0_init cX0_init 1 none) := ⟨List.mem_of_getElem? (i := 63) (by decide +kernel), by decide +kernel⟩
theorem nw_62 : fz_M (.instanceMethod yX0_init) := ⟨List.mem_of_getElem? (i := 62) (by decide +kernel), by decide +kernel⟩
theorem lk_X2_62 : fz_LJ RX2 62 yX0_init cX0_init 1 := ⟨⟨ii_X0, nw_63, by decide +kernel, by decide +kernel, by decide +kernel⟩, ⟨_, nw_61⟩, nw_62, rfl⟩
theorem nw_38 : fz_M (.methodLink RX3 9 yX2_init) := ⟨List.mem_of_getElem? (i := 38) (by decide +kernel), by decide +kernel⟩
theorem nw_40 : fz_M (.code yX2_init cX2_init 2 none) := ⟨List.mem_of_getElem? (i := 40) (by decide +kernel), by decide +kernel⟩
theorem nw_39 : fz_M (.instanceMethod yX2_init) := ⟨List.mem_of_getElem? (i := 39) (by decide +kernel), by decide +kernel⟩
theorem lk_X3_9 : fz_LI RX3 9 yX2_init cX2_init 2 := ⟨⟨ii_X2, nw_40, by decide +kernel, by decide +kernel, by decide +kernel⟩, nw_38, nw_39, rfl⟩
end
section
set_option maxHeartbeats 4000000 in
set_option maxRecDepth 100000 in
theorem c_X0_init (l : Launch) (g : GG) (h0 : Nat) : fz_CN l g yX0_init cX0_init 1 1 0 0 24 [.ref h0] [(h0, .inr (0, [.int 0, .int 0, .int 0, .int 0, .int 0, .int 0]))] (fun W => W = [(h0, .inr (0, [.int 0, .int 0, .int 0, .int 0, .int 0, .int 0]))]) := by
  refine fz_CN.of (by decide) (Nat.le_of_ble_eq_true rfl) ?_
  intro p e s m args below meth c A ls X hin hW hl
  have hx := X.1
  have hb := X.2.1
  have hl : lv_has ls 1 [(0, .ref h0)] := hl
  have X : fz_X p s m meth c RX0 cX0_init 1 none g A := X
  have hin : meth.name = "<init>" := hin
  have hW : fz_W g A s [(h0, .inr (0, [.int 0, .int 0, .int 0, .int 0, .int 0, .int 0]))] s.heap _ := hW
  refine lv_aload_n hx hb dX0_init_0 rfl (lv_at hl 0 rfl) ?_
  refine fz_oi X hl oi_X0 oi_i oi_c (Nat.le_of_ble_eq_true rfl) (Nat.le_of_ble_eq_true rfl) dX0_init_1 ?_
  exact fz_rvN X hW rfl ⟨(Nat.le_of_ble_eq_true rfl), (Nat.le_of_ble_eq_true rfl)⟩ dX0_init_4
set_option maxHeartbeats 4000000 in
set_option maxRecDepth 100000 in
theorem c_X1_init (l : Launch) (g : GG) (h0 : Nat) : fz_CN l g yX1_init cX1_init 1 1 1 8 24 [.ref h0] [(h0, .inr (1, [.null, .int 0]))] (fun W => ∃ q : Nat, W = [(h0, .inr (1, [.ref q, .int 0])), (q, .inl (g.2 0, 8, .inl (fun _ => 0)))]) := by
  refine fz_CN.of (by decide) (Nat.le_of_ble_eq_true rfl) ?_
  intro p e s m args below meth c A ls X hin hW hl
  have hx := X.1
  have hb := X.2.1
  have hl : lv_has ls 1 [(0, .ref h0)] := hl
  have X : fz_X p s m meth c RX1 cX1_init 1 none g A := X
  have hin : meth.name = "<init>" := hin
  have hW : fz_W g A s [(h0, .inr (1, [.null, .int 0]))] s.heap _ := hW
  refine lv_aload_n hx hb dX1_init_0 rfl (lv_at hl 0 rfl) ?_
  refine fz_oi X hl oi_X1 oi_i oi_c (Nat.le_of_ble_eq_true rfl) (Nat.le_of_ble_eq_true rfl) dX1_init_1 ?_
  refine lv_aload_n hx hb dX1_init_4 rfl (lv_at hl 0 rfl) ?_
  refine lv_bipush (v := 8) hx hb dX1_init_5 (by decide) ?_
  refine fz_ni X hW (atype := .int) (ty := .int) rfl ar_i 0 rfl (fun _ _ h => h) (N' := 8) (a0 := (8, .inl (fun _ => 0))) (fun _ => rfl) (by decide) rfl (Nat.le_of_ble_eq_true rfl) (Nat.le_of_ble_eq_true rfl) (Nat.le_of_ble_eq_true rfl) dX1_init_7 (fun q1 H hW => ?_)
  have hW : fz_W g A s [(h0, .inr (1, [.null, .int 0])), (q1, .inl (g.2 0, 8, .inl (fun _ => 0)))] H _ := hW
  refine qf_X1_9 X hin hW 0 rfl (Nat.le_of_ble_eq_true rfl) dX1_init_9 (fun H locs hW => ?_)
  have hW : fz_W g A s [(h0, .inr (1, [.ref q1, .int 0])), (q1, .inl (g.2 0, 8, .inl (fun _ => 0)))] H _ := hW
  refine lv_aload_n hx hb dX1_init_12 rfl (lv_at hl 0 rfl) ?_
  refine lv_iconst (v := 0) hx hb dX1_init_13 (by decide) ?_
  refine pf_X1_15 X hW 0 rfl (Nat.le_of_ble_eq_true rfl) dX1_init_14 (fun H locs hW => ?_)
  have hW : fz_W g A s [(h0, .inr (1, [.ref q1, .int 0])), (q1, .inl (g.2 0, 8, .inl (fun _ => 0)))] H _ := hW
  exact fz_rvN X hW ⟨_, rfl⟩ ⟨(Nat.le_of_ble_eq_true rfl), (Nat.le_of_ble_eq_true rfl)⟩ dX1_init_17
def SV0 : SV := SV.mk9 (fun _ => 0) (fun _ => 0) (fz_to (fun _ => -1) (fun _ => 0) 48) (fun _ => 0) (fun _ => 0) (fun _ => 0) (fun _ => 0) (fun _ _ => 0) 0 (fun _ => 0) 0 (fun _ => 0) 0 0 0
theorem va_up5 (a : Nat → Nat) : va_up (va_up (va_up (va_up (va_up (fun _ => none) 0 (some (a 12))) 1 (some (a 13))) 2 (some (a 14))) 3 (some (a 15))) 4 (some (a 16)) = (fun j => if j < 5 then some (a (12 + j)) else none) := by
  funext j
  rcases (show j = 0 ∨ j = 1 ∨ j = 2 ∨ j = 3 ∨ j = 4 ∨ 5 ≤ j by omega) with rfl | rfl | rfl | rfl | rfl | h
  · rfl
  · rfl
  · rfl
  · rfl
  · rfl
  · show (if j = 4 then _ else if j = 3 then _ else if j = 2 then _ else if j = 1 then _ else if j = 0 then _ else none) = (if j < 5 then some (a (12 + j)) else none)
    rw [if_neg (show ¬ j = 4 by omega), if_neg (show ¬ j = 3 by omega), if_neg (show ¬ j = 2 by omega), if_neg (show ¬ j = 1 by omega), if_neg (show ¬ j = 0 by omega), if_neg (show ¬ j < 5 by omega)]
set_option maxHeartbeats 4000000 in
set_option maxRecDepth 100000 in
theorem c_X2_init (l : Launch) (g : GG) (h0 : Nat) : fz_CN l g yX2_init cX2_init 2 2 16 385 44 [.ref h0] [(h0, .inr (2, [.null, .null, .null, .null, .null, .null, .null, .null, .int 0, .null, .null, .int 0, .int 0, .int 0]))] (fun W => ∃ a : Nat → Nat, a 0 = h0 ∧ W = SW g a SV0) := by
  refine fz_CN.of (by decide) (Nat.le_of_ble_eq_true rfl) ?_
  intro p e s m args below meth c A ls X hin hW hl
  have hx := X.1
  have hb := X.2.1
  have hl : lv_has ls 2 [(0, .ref h0)] := hl
  have X : fz_X p s m meth c RX2 cX2_init 2 none g A := X
  have hin : meth.name = "<init>" := hin
  have hW : fz_W g A s [(h0, .inr (2, [.null, .null, .null, .null, .null, .null, .null, .null, .int 0, .null, .null, .int 0, .int 0, .int 0]))] s.heap _ := hW
  refine lv_aload_n hx hb dX2_init_0 rfl (lv_at hl 0 rfl) ?_
  refine fz_oi X hl oi_X2 oi_i oi_c (Nat.le_of_ble_eq_true rfl) (Nat.le_of_ble_eq_true rfl) dX2_init_1 ?_
  refine lv_aload_n hx hb dX2_init_4 rfl (lv_at hl 0 rfl) ?_
  refine lv_bipush (v := 48) hx hb dX2_init_5 (by decide) ?_
  refine fz_ni X hW (atype := .int) (ty := .int) rfl ar_i 0 rfl (fun _ _ h => h) (N' := 48) (a0 := (48, .inl (fun _ => 0))) (fun _ => rfl) (by decide) rfl (Nat.le_of_ble_eq_true rfl) (Nat.le_of_ble_eq_true rfl) (Nat.le_of_ble_eq_true rfl) dX2_init_7 (fun q1 H hW => ?_)
  have hW : fz_W g A s [(h0, .inr (2, [.null, .null, .null, .null, .null, .null, .null, .null, .int 0, .null, .null, .int 0, .int 0, .int 0])), (q1, .inl (g.2 0, 48, .inl (fun _ => 0)))] H _ := hW
  refine qf_X2_9 X hin hW 0 rfl (Nat.le_of_ble_eq_true rfl) dX2_init_9 (fun H locs hW => ?_)
  have hW : fz_W g A s [(h0, .inr (2, [.ref q1, .null, .null, .null, .null, .null, .null, .null, .int 0, .null, .null, .int 0, .int 0, .int 0])), (q1, .inl (g.2 0, 48, .inl (fun _ => 0)))] H _ := hW
  refine lv_aload_n hx hb dX2_init_12 rfl (lv_at hl 0 rfl) ?_
  refine lv_bipush (v := 48) hx hb dX2_init_13 (by decide) ?_
  refine fz_ni X hW (atype := .int) (ty := .int) rfl ar_i 0 rfl (fun _ _ h => h) (N' := 48) (a0 := (48, .inl (fun _ => 0))) (fun _ => rfl) (by decide) rfl (Nat.le_of_ble_eq_true rfl) (Nat.le_of_ble_eq_true rfl) (Nat.le_of_ble_eq_true rfl) dX2_init_15 (fun q2 H hW => ?_)
  have hW : fz_W g A s [(h0, .inr (2, [.ref q1, .null, .null, .null, .null, .null, .null, .null, .int 0, .null, .null, .int 0, .int 0, .int 0])), (q1, .inl (g.2 0, 48, .inl (fun _ => 0))), (q2, .inl (g.2 0, 48, .inl (fun _ => 0)))] H _ := hW
  refine qf_X2_15 X hin hW 0 rfl (Nat.le_of_ble_eq_true rfl) dX2_init_17 (fun H locs hW => ?_)
  have hW : fz_W g A s [(h0, .inr (2, [.ref q1, .ref q2, .null, .null, .null, .null, .null, .null, .int 0, .null, .null, .int 0, .int 0, .int 0])), (q1, .inl (g.2 0, 48, .inl (fun _ => 0))), (q2, .inl (g.2 0, 48, .inl (fun _ => 0)))] H _ := hW
  refine lv_aload_n hx hb dX2_init_20 rfl (lv_at hl 0 rfl) ?_
  refine lv_bipush (v := 48) hx hb dX2_init_21 (by decide) ?_
  refine fz_ni X hW (atype := .int) (ty := .int) rfl ar_i 0 rfl (fun _ _ h => h) (N' := 48) (a0 := (48, .inl (fun _ => 0))) (fun _ => rfl) (by decide) rfl (Nat.le_of_ble_eq_true rfl) (Nat.le_of_ble_eq_true rfl) (Nat.le_of_ble_eq_true rfl) dX2_init_23 (fun q3 H hW => ?_)
  have hW : fz_W g A s [(h0, .inr (2, [.ref q1, .ref q2, .null, .null, .null, .null, .null, .null, .int 0, .null, .null, .int 0, .int 0, .int 0])), (q1, .inl (g.2 0, 48, .inl (fun _ => 0))), (q2, .inl (g.2 0, 48, .inl (fun _ => 0))), (q3, .inl (g.2 0, 48, .inl (fun _ => 0)))] H _ := hW
  refine qf_X2_18 X hin hW 0 rfl (Nat.le_of_ble_eq_true rfl) dX2_init_25 (fun H locs hW => ?_)
  have hW : fz_W g A s [(h0, .inr (2, [.ref q1, .ref q2, .ref q3, .null, .null, .null, .null, .null, .int 0, .null, .null, .int 0, .int 0, .int 0])), (q1, .inl (g.2 0, 48, .inl (fun _ => 0))), (q2, .inl (g.2 0, 48, .inl (fun _ => 0))), (q3, .inl (g.2 0, 48, .inl (fun _ => 0)))] H _ := hW
  refine lv_aload_n hx hb dX2_init_28 rfl (lv_at hl 0 rfl) ?_
  refine lv_bipush (v := 48) hx hb dX2_init_29 (by decide) ?_
  refine fz_ni X hW (atype := .int) (ty := .int) rfl ar_i 0 rfl (fun _ _ h => h) (N' := 48) (a0 := (48, .inl (fun _ => 0))) (fun _ => rfl) (by decide) rfl (Nat.le_of_ble_eq_true rfl) (Nat.le_of_ble_eq_true rfl) (Nat.le_of_ble_eq_true rfl) dX2_init_31 (fun q4 H hW => ?_)
  have hW : fz_W g A s [(h0, .inr (2, [.ref q1, .ref q2, .ref q3, .null, .null, .null, .null, .null, .int 0, .null, .null, .int 0, .int 0, .int 0])), (q1, .inl (g.2 0, 48, .inl (fun _ => 0))), (q2, .inl (g.2 0, 48, .inl (fun _ => 0))), (q3, .inl (g.2 0, 48, .inl (fun _ => 0))), (q4, .inl (g.2 0, 48, .inl (fun _ => 0)))] H _ := hW
  refine qf_X2_21 X hin hW 0 rfl (Nat.le_of_ble_eq_true rfl) dX2_init_33 (fun H locs hW => ?_)
  have hW : fz_W g A s [(h0, .inr (2, [.ref q1, .ref q2, .ref q3, .ref q4, .null, .null, .null, .null, .int 0, .null, .null, .int 0, .int 0, .int 0])), (q1, .inl (g.2 0, 48, .inl (fun _ => 0))), (q2, .inl (g.2 0, 48, .inl (fun _ => 0))), (q3, .inl (g.2 0, 48, .inl (fun _ => 0))), (q4, .inl (g.2 0, 48, .inl (fun _ => 0)))] H _ := hW
  refine lv_aload_n hx hb dX2_init_36 rfl (lv_at hl 0 rfl) ?_
  refine lv_bipush (v := 48) hx hb dX2_init_37 (by decide) ?_
  refine fz_ni X hW (atype := .int) (ty := .int) rfl ar_i 0 rfl (fun _ _ h => h) (N' := 48) (a0 := (48, .inl (fun _ => 0))) (fun _ => rfl) (by decide) rfl (Nat.le_of_ble_eq_true rfl) (Nat.le_of_ble_eq_true rfl) (Nat.le_of_ble_eq_true rfl) dX2_init_39 (fun q5 H hW => ?_)
  have hW : fz_W g A s [(h0, .inr (2, [.ref q1, .ref q2, .ref q3, .ref q4, .null, .null, .null, .null, .int 0, .null, .null, .int 0, .int 0, .int 0])), (q1, .inl (g.2 0, 48, .inl (fun _ => 0))), (q2, .inl (g.2 0, 48, .inl (fun _ => 0))), (q3, .inl (g.2 0, 48, .inl (fun _ => 0))), (q4, .inl (g.2 0, 48, .inl (fun _ => 0))), (q5, .inl (g.2 0, 48, .inl (fun _ => 0)))] H _ := hW
  refine qf_X2_24 X hin hW 0 rfl (Nat.le_of_ble_eq_true rfl) dX2_init_41 (fun H locs hW => ?_)
  have hW : fz_W g A s [(h0, .inr (2, [.ref q1, .ref q2, .ref q3, .ref q4, .ref q5, .null, .null, .null, .int 0, .null, .null, .int 0, .int 0, .int 0])), (q1, .inl (g.2 0, 48, .inl (fun _ => 0))), (q2, .inl (g.2 0, 48, .inl (fun _ => 0))), (q3, .inl (g.2 0, 48, .inl (fun _ => 0))), (q4, .inl (g.2 0, 48, .inl (fun _ => 0))), (q5, .inl (g.2 0, 48, .inl (fun _ => 0)))] H _ := hW
  refine lv_aload_n hx hb dX2_init_44 rfl (lv_at hl 0 rfl) ?_
  refine lv_bipush (v := 48) hx hb dX2_init_45 (by decide) ?_
  refine fz_ni X hW (atype := .int) (ty := .int) rfl ar_i 0 rfl (fun _ _ h => h) (N' := 48) (a0 := (48, .inl (fun _ => 0))) (fun _ => rfl) (by decide) rfl (Nat.le_of_ble_eq_true rfl) (Nat.le_of_ble_eq_true rfl) (Nat.le_of_ble_eq_true rfl) dX2_init_47 (fun q6 H hW => ?_)
  have hW : fz_W g A s [(h0, .inr (2, [.ref q1, .ref q2, .ref q3, .ref q4, .ref q5, .null, .null, .null, .int 0, .null, .null, .int 0, .int 0, .int 0])), (q1, .inl (g.2 0, 48, .inl (fun _ => 0))), (q2, .inl (g.2 0, 48, .inl (fun _ => 0))), (q3, .inl (g.2 0, 48, .inl (fun _ => 0))), (q4, .inl (g.2 0, 48, .inl (fun _ => 0))), (q5, .inl (g.2 0, 48, .inl (fun _ => 0))), (q6, .inl (g.2 0, 48, .inl (fun _ => 0)))] H _ := hW
  refine qf_X2_27 X hin hW 0 rfl (Nat.le_of_ble_eq_true rfl) dX2_init_49 (fun H locs hW => ?_)
  have hW : fz_W g A s [(h0, .inr (2, [.ref q1, .ref q2, .ref q3, .ref q4, .ref q5, .ref q6, .null, .null, .int 0, .null, .null, .int 0, .int 0, .int 0])), (q1, .inl (g.2 0, 48, .inl (fun _ => 0))), (q2, .inl (g.2 0, 48, .inl (fun _ => 0))), (q3, .inl (g.2 0, 48, .inl (fun _ => 0))), (q4, .inl (g.2 0, 48, .inl (fun _ => 0))), (q5, .inl (g.2 0, 48, .inl (fun _ => 0))), (q6, .inl (g.2 0, 48, .inl (fun _ => 0)))] H _ := hW
  refine lv_aload_n hx hb dX2_init_52 rfl (lv_at hl 0 rfl) ?_
  refine lv_bipush (v := 48) hx hb dX2_init_53 (by decide) ?_
  refine fz_ni X hW (atype := .int) (ty := .int) rfl ar_i 0 rfl (fun _ _ h => h) (N' := 48) (a0 := (48, .inl (fun _ => 0))) (fun _ => rfl) (by decide) rfl (Nat.le_of_ble_eq_true rfl) (Nat.le_of_ble_eq_true rfl) (Nat.le_of_ble_eq_true rfl) dX2_init_55 (fun q7 H hW => ?_)
  have hW : fz_W g A s [(h0, .inr (2, [.ref q1, .ref q2, .ref q3, .ref q4, .ref q5, .ref q6, .null, .null, .int 0, .null, .null, .int 0, .int 0, .int 0])), (q1, .inl (g.2 0, 48, .inl (fun _ => 0))), (q2, .inl (g.2 0, 48, .inl (fun _ => 0))), (q3, .inl (g.2 0, 48, .inl (fun _ => 0))), (q4, .inl (g.2 0, 48, .inl (fun _ => 0))), (q5, .inl (g.2 0, 48, .inl (fun _ => 0))), (q6, .inl (g.2 0, 48, .inl (fun _ => 0))), (q7, .inl (g.2 0, 48, .inl (fun _ => 0)))] H _ := hW
  refine qf_X2_30 X hin hW 0 rfl (Nat.le_of_ble_eq_true rfl) dX2_init_57 (fun H locs hW => ?_)
  have hW : fz_W g A s [(h0, .inr (2, [.ref q1, .ref q2, .ref q3, .ref q4, .ref q5, .ref q6, .ref q7, .null, .int 0, .null, .null, .int 0, .int 0, .int 0])), (q1, .inl (g.2 0, 48, .inl (fun _ => 0))), (q2, .inl (g.2 0, 48, .inl (fun _ => 0))), (q3, .inl (g.2 0, 48, .inl (fun _ => 0))), (q4, .inl (g.2 0, 48, .inl (fun _ => 0))), (q5, .inl (g.2 0, 48, .inl (fun _ => 0))), (q6, .inl (g.2 0, 48, .inl (fun _ => 0))), (q7, .inl (g.2 0, 48, .inl (fun _ => 0)))] H _ := hW
  refine lv_aload_n hx hb dX2_init_60 rfl (lv_at hl 0 rfl) ?_
  refine lv_iconst (v := 5) hx hb dX2_init_61 (by decide) ?_
  refine fz_nq X hW cl_X2_33 ar_q 3 rfl (N' := 5) (by decide) rfl (Nat.le_of_ble_eq_true rfl) (Nat.le_of_ble_eq_true rfl) (Nat.le_of_ble_eq_true rfl) dX2_init_62 (fun q8 H hW => ?_)
  have hW : fz_W g A s [(h0, .inr (2, [.ref q1, .ref q2, .ref q3, .ref q4, .ref q5, .ref q6, .ref q7, .null, .int 0, .null, .null, .int 0, .int 0, .int 0])), (q1, .inl (g.2 0, 48, .inl (fun _ => 0))), (q2, .inl (g.2 0, 48, .inl (fun _ => 0))), (q3, .inl (g.2 0, 48, .inl (fun _ => 0))), (q4, .inl (g.2 0, 48, .inl (fun _ => 0))), (q5, .inl (g.2 0, 48, .inl (fun _ => 0))), (q6, .inl (g.2 0, 48, .inl (fun _ => 0))), (q7, .inl (g.2 0, 48, .inl (fun _ => 0))), (q8, .inl (g.2 3, 5, .inr (.inr (.inr (.inr (fun _ => none))))))] H _ := hW
  refine qf_X2_35 X hin hW 0 rfl (Nat.le_of_ble_eq_true rfl) dX2_init_65 (fun H locs hW => ?_)
  have hW : fz_W g A s [(h0, .inr (2, [.ref q1, .ref q2, .ref q3, .ref q4, .ref q5, .ref q6, .ref q7, .ref q8, .int 0, .null, .null, .int 0, .int 0, .int 0])), (q1, .inl (g.2 0, 48, .inl (fun _ => 0))), (q2, .inl (g.2 0, 48, .inl (fun _ => 0))), (q3, .inl (g.2 0, 48, .inl (fun _ => 0))), (q4, .inl (g.2 0, 48, .inl (fun _ => 0))), (q5, .inl (g.2 0, 48, .inl (fun _ => 0))), (q6, .inl (g.2 0, 48, .inl (fun _ => 0))), (q7, .inl (g.2 0, 48, .inl (fun _ => 0))), (q8, .inl (g.2 3, 5, .inr (.inr (.inr (.inr (fun _ => none))))))] H _ := hW
  refine lv_aload_n hx hb dX2_init_68 rfl (lv_at hl 0 rfl) ?_
  refine lv_iconst (v := 0) hx hb dX2_init_69 (by decide) ?_
  refine pf_X2_39 X hW 0 rfl (Nat.le_of_ble_eq_true rfl) dX2_init_70 (fun H locs hW => ?_)
  have hW : fz_W g A s [(h0, .inr (2, [.ref q1, .ref q2, .ref q3, .ref q4, .ref q5, .ref q6, .ref q7, .ref q8, .int 0, .null, .null, .int 0, .int 0, .int 0])), (q1, .inl (g.2 0, 48, .inl (fun _ => 0))), (q2, .inl (g.2 0, 48, .inl (fun _ => 0))), (q3, .inl (g.2 0, 48, .inl (fun _ => 0))), (q4, .inl (g.2 0, 48, .inl (fun _ => 0))), (q5, .inl (g.2 0, 48, .inl (fun _ => 0))), (q6, .inl (g.2 0, 48, .inl (fun _ => 0))), (q7, .inl (g.2 0, 48, .inl (fun _ => 0))), (q8, .inl (g.2 3, 5, .inr (.inr (.inr (.inr (fun _ => none))))))] H _ := hW
  refine lv_aload_n hx hb dX2_init_73 rfl (lv_at hl 0 rfl) ?_
  refine fz_nw X hW (ci := 1) (fs := [.null, .int 0]) inX1 rfl tyX1 tyX1_ok cl_X2_43 ib_X1 ii_X1 (fun j hj => by rcases (show j = 0 ∨ j = 1 by omega) with rfl | rfl <;> rfl) (Nat.le_of_ble_eq_true rfl) (Nat.le_of_ble_eq_true rfl) dX2_init_74 (fun q9 H hW => ?_)
  have hW : fz_W g A s [(h0, .inr (2, [.ref q1, .ref q2, .ref q3, .ref q4, .ref q5, .ref q6, .ref q7, .ref q8, .int 0, .null, .null, .int 0, .int 0, .int 0])), (q1, .inl (g.2 0, 48, .inl (fun _ => 0))), (q2, .inl (g.2 0, 48, .inl (fun _ => 0))), (q3, .inl (g.2 0, 48, .inl (fun _ => 0))), (q4, .inl (g.2 0, 48, .inl (fun _ => 0))), (q5, .inl (g.2 0, 48, .inl (fun _ => 0))), (q6, .inl (g.2 0, 48, .inl (fun _ => 0))), (q7, .inl (g.2 0, 48, .inl (fun _ => 0))), (q8, .inl (g.2 3, 5, .inr (.inr (.inr (.inr (fun _ => none)))))), (q9, .inr (1, [.null, .int 0]))] H _ := hW
  refine lv_dup hx hb dX2_init_77 rfl ?_
  refine fz_cJ X hW (wc := [(q9, .inr (1, [.null, .int 0]))]) (wr := [(h0, .inr (2, [.ref q1, .ref q2, .ref q3, .ref q4, .ref q5, .ref q6, .ref q7, .ref q8, .int 0, .null, .null, .int 0, .int 0, .int 0])), (q1, .inl (g.2 0, 48, .inl (fun _ => 0))), (q2, .inl (g.2 0, 48, .inl (fun _ => 0))), (q3, .inl (g.2 0, 48, .inl (fun _ => 0))), (q4, .inl (g.2 0, 48, .inl (fun _ => 0))), (q5, .inl (g.2 0, 48, .inl (fun _ => 0))), (q6, .inl (g.2 0, 48, .inl (fun _ => 0))), (q7, .inl (g.2 0, 48, .inl (fun _ => 0))), (q8, .inl (g.2 3, 5, .inr (.inr (.inr (.inr (fun _ => none))))))]) [9] [0, 1, 2, 3, 4, 5, 6, 7, 8] (c_X1_init l g q9) lk_X2_45 rfl rfl rfl (by decide) (by decide) ⟨(Nat.le_of_ble_eq_true rfl), (Nat.le_of_ble_eq_true rfl)⟩ hl (Nat.le_of_ble_eq_true rfl) dX2_init_78 ⟨(Nat.le_of_ble_eq_true rfl), (Nat.le_of_ble_eq_true rfl)⟩ (fun W1 H locs hK hW => ?_)
  obtain ⟨q10, rfl⟩ := hK
  have hW : fz_W g A s [(h0, .inr (2, [.ref q1, .ref q2, .ref q3, .ref q4, .ref q5, .ref q6, .ref q7, .ref q8, .int 0, .null, .null, .int 0, .int 0, .int 0])), (q1, .inl (g.2 0, 48, .inl (fun _ => 0))), (q2, .inl (g.2 0, 48, .inl (fun _ => 0))), (q3, .inl (g.2 0, 48, .inl (fun _ => 0))), (q4, .inl (g.2 0, 48, .inl (fun _ => 0))), (q5, .inl (g.2 0, 48, .inl (fun _ => 0))), (q6, .inl (g.2 0, 48, .inl (fun _ => 0))), (q7, .inl (g.2 0, 48, .inl (fun _ => 0))), (q8, .inl (g.2 3, 5, .inr (.inr (.inr (.inr (fun _ => none)))))), (q9, .inr (1, [.ref q10, .int 0])), (q10, .inl (g.2 0, 8, .inl (fun _ => 0)))] H _ := hW
  refine qf_X2_46 X hin hW 0 rfl (Nat.le_of_ble_eq_true rfl) dX2_init_81 (fun H locs hW => ?_)
  have hW : fz_W g A s [(h0, .inr (2, [.ref q1, .ref q2, .ref q3, .ref q4, .ref q5, .ref q6, .ref q7, .ref q8, .int 0, .ref q9, .null, .int 0, .int 0, .int 0])), (q1, .inl (g.2 0, 48, .inl (fun _ => 0))), (q2, .inl (g.2 0, 48, .inl (fun _ => 0))), (q3, .inl (g.2 0, 48, .inl (fun _ => 0))), (q4, .inl (g.2 0, 48, .inl (fun _ => 0))), (q5, .inl (g.2 0, 48, .inl (fun _ => 0))), (q6, .inl (g.2 0, 48, .inl (fun _ => 0))), (q7, .inl (g.2 0, 48, .inl (fun _ => 0))), (q8, .inl (g.2 3, 5, .inr (.inr (.inr (.inr (fun _ => none)))))), (q9, .inr (1, [.ref q10, .int 0])), (q10, .inl (g.2 0, 8, .inl (fun _ => 0)))] H _ := hW
  refine lv_aload_n hx hb dX2_init_84 rfl (lv_at hl 0 rfl) ?_
  refine lv_iconst (v := 4) hx hb dX2_init_85 (by decide) ?_
  refine fz_ni X hW (atype := .int) (ty := .int) rfl ar_i 0 rfl (fun _ _ h => h) (N' := 4) (a0 := (4, .inl (fun _ => 0))) (fun _ => rfl) (by decide) rfl (Nat.le_of_ble_eq_true rfl) (Nat.le_of_ble_eq_true rfl) (Nat.le_of_ble_eq_true rfl) dX2_init_86 (fun q11 H hW => ?_)
  have hW : fz_W g A s [(h0, .inr (2, [.ref q1, .ref q2, .ref q3, .ref q4, .ref q5, .ref q6, .ref q7, .ref q8, .int 0, .ref q9, .null, .int 0, .int 0, .int 0])), (q1, .inl (g.2 0, 48, .inl (fun _ => 0))), (q2, .inl (g.2 0, 48, .inl (fun _ => 0))), (q3, .inl (g.2 0, 48, .inl (fun _ => 0))), (q4, .inl (g.2 0, 48, .inl (fun _ => 0))), (q5, .inl (g.2 0, 48, .inl (fun _ => 0))), (q6, .inl (g.2 0, 48, .inl (fun _ => 0))), (q7, .inl (g.2 0, 48, .inl (fun _ => 0))), (q8, .inl (g.2 3, 5, .inr (.inr (.inr (.inr (fun _ => none)))))), (q9, .inr (1, [.ref q10, .int 0])), (q10, .inl (g.2 0, 8, .inl (fun _ => 0))), (q11, .inl (g.2 0, 4, .inl (fun _ => 0)))] H _ := hW
  refine qf_X2_50 X hin hW 0 rfl (Nat.le_of_ble_eq_true rfl) dX2_init_88 (fun H locs hW => ?_)
  have hW : fz_W g A s [(h0, .inr (2, [.ref q1, .ref q2, .ref q3, .ref q4, .ref q5, .ref q6, .ref q7, .ref q8, .int 0, .ref q9, .ref q11, .int 0, .int 0, .int 0])), (q1, .inl (g.2 0, 48, .inl (fun _ => 0))), (q2, .inl (g.2 0, 48, .inl (fun _ => 0))), (q3, .inl (g.2 0, 48, .inl (fun _ => 0))), (q4, .inl (g.2 0, 48, .inl (fun _ => 0))), (q5, .inl (g.2 0, 48, .inl (fun _ => 0))), (q6, .inl (g.2 0, 48, .inl (fun _ => 0))), (q7, .inl (g.2 0, 48, .inl (fun _ => 0))), (q8, .inl (g.2 3, 5, .inr (.inr (.inr (.inr (fun _ => none)))))), (q9, .inr (1, [.ref q10, .int 0])), (q10, .inl (g.2 0, 8, .inl (fun _ => 0))), (q11, .inl (g.2 0, 4, .inl (fun _ => 0)))] H _ := hW
  refine lv_aload_n hx hb dX2_init_91 rfl (lv_at hl 0 rfl) ?_
  refine lv_iconst (v := 0) hx hb dX2_init_92 (by decide) ?_
  refine pf_X2_53 X hW 0 rfl (Nat.le_of_ble_eq_true rfl) dX2_init_93 (fun H locs hW => ?_)
  have hW : fz_W g A s [(h0, .inr (2, [.ref q1, .ref q2, .ref q3, .ref q4, .ref q5, .ref q6, .ref q7, .ref q8, .int 0, .ref q9, .ref q11, .int 0, .int 0, .int 0])), (q1, .inl (g.2 0, 48, .inl (fun _ => 0))), (q2, .inl (g.2 0, 48, .inl (fun _ => 0))), (q3, .inl (g.2 0, 48, .inl (fun _ => 0))), (q4, .inl (g.2 0, 48, .inl (fun _ => 0))), (q5, .inl (g.2 0, 48, .inl (fun _ => 0))), (q6, .inl (g.2 0, 48, .inl (fun _ => 0))), (q7, .inl (g.2 0, 48, .inl (fun _ => 0))), (q8, .inl (g.2 3, 5, .inr (.inr (.inr (.inr (fun _ => none)))))), (q9, .inr (1, [.ref q10, .int 0])), (q10, .inl (g.2 0, 8, .inl (fun _ => 0))), (q11, .inl (g.2 0, 4, .inl (fun _ => 0)))] H _ := hW
  refine lv_aload_n hx hb dX2_init_96 rfl (lv_at hl 0 rfl) ?_
  refine lv_iconst (v := 0) hx hb dX2_init_97 (by decide) ?_
  refine pf_X2_56 X hW 0 rfl (Nat.le_of_ble_eq_true rfl) dX2_init_98 (fun H locs hW => ?_)
  have hW : fz_W g A s [(h0, .inr (2, [.ref q1, .ref q2, .ref q3, .ref q4, .ref q5, .ref q6, .ref q7, .ref q8, .int 0, .ref q9, .ref q11, .int 0, .int 0, .int 0])), (q1, .inl (g.2 0, 48, .inl (fun _ => 0))), (q2, .inl (g.2 0, 48, .inl (fun _ => 0))), (q3, .inl (g.2 0, 48, .inl (fun _ => 0))), (q4, .inl (g.2 0, 48, .inl (fun _ => 0))), (q5, .inl (g.2 0, 48, .inl (fun _ => 0))), (q6, .inl (g.2 0, 48, .inl (fun _ => 0))), (q7, .inl (g.2 0, 48, .inl (fun _ => 0))), (q8, .inl (g.2 3, 5, .inr (.inr (.inr (.inr (fun _ => none)))))), (q9, .inr (1, [.ref q10, .int 0])), (q10, .inl (g.2 0, 8, .inl (fun _ => 0))), (q11, .inl (g.2 0, 4, .inl (fun _ => 0)))] H _ := hW
  refine lv_aload_n hx hb dX2_init_101 rfl (lv_at hl 0 rfl) ?_
  refine lv_iconst (v := 0) hx hb dX2_init_102 (by decide) ?_
  refine pf_X2_59 X hW 0 rfl (Nat.le_of_ble_eq_true rfl) dX2_init_103 (fun H locs hW => ?_)
  have hW : fz_W g A s [(h0, .inr (2, [.ref q1, .ref q2, .ref q3, .ref q4, .ref q5, .ref q6, .ref q7, .ref q8, .int 0, .ref q9, .ref q11, .int 0, .int 0, .int 0])), (q1, .inl (g.2 0, 48, .inl (fun _ => 0))), (q2, .inl (g.2 0, 48, .inl (fun _ => 0))), (q3, .inl (g.2 0, 48, .inl (fun _ => 0))), (q4, .inl (g.2 0, 48, .inl (fun _ => 0))), (q5, .inl (g.2 0, 48, .inl (fun _ => 0))), (q6, .inl (g.2 0, 48, .inl (fun _ => 0))), (q7, .inl (g.2 0, 48, .inl (fun _ => 0))), (q8, .inl (g.2 3, 5, .inr (.inr (.inr (.inr (fun _ => none)))))), (q9, .inr (1, [.ref q10, .int 0])), (q10, .inl (g.2 0, 8, .inl (fun _ => 0))), (q11, .inl (g.2 0, 4, .inl (fun _ => 0)))] H _ := hW
  refine lv_iconst (v := 0) hx hb dX2_init_106 (by decide) ?_
  refine lv_istore_n (lv' := [(1, .int 0), (0, .ref h0)]) hx hb dX2_init_107 rfl hl (by decide) rfl (fun ls hl => ?_)
  have loop : ∀ (k : Nat) (t : Nat), t ≤ 48 → 48 < t + k → ∀ (H : Heap) (locs : List Loc) (ls : Array Slot), fz_W g A s [(h0, .inr (2, [.ref q1, .ref q2, .ref q3, .ref q4, .ref q5, .ref q6, .ref q7, .ref q8, .int 0, .ref q9, .ref q11, .int 0, .int 0, .int 0])), (q1, .inl (g.2 0, 48, .inl (fun _ => 0))), (q2, .inl (g.2 0, 48, .inl (fun _ => 0))), (q3, .inl (g.2 0, 48, .inl (fz_to (fun _ => -1) (fun _ => 0) t))), (q4, .inl (g.2 0, 48, .inl (fun _ => 0))), (q5, .inl (g.2 0, 48, .inl (fun _ => 0))), (q6, .inl (g.2 0, 48, .inl (fun _ => 0))), (q7, .inl (g.2 0, 48, .inl (fun _ => 0))), (q8, .inl (g.2 3, 5, .inr (.inr (.inr (.inr (fun _ => none)))))), (q9, .inr (1, [.ref q10, .int 0])), (q10, .inl (g.2 0, 8, .inl (fun _ => 0))), (q11, .inl (g.2 0, 4, .inl (fun _ => 0)))] H locs → lv_has ls 2 [(0, .ref h0), (1, .int (nI t))] → W p l e (fz_R 2 16 385 44) s m args below meth c H locs (0 + 1 + 1 + 1 + 1 + 1 + 1 + 1 + 1 + 1 + 1 + 1) (0 + 48 + 48 + 48 + 48 + 48 + 48 + 48 + 5 + 2 + 8 + 4) (MQ below (fz_QN g (fun W => ∃ a : Nat → Nat, a 0 = h0 ∧ W = SW g a SV0) A) args s 16 385 A) (F0 m 108 ls []) := by
    intro k
    induction k with
    | zero =>
      intro t ht hk
      omega
    | succ k ih =>
      intro t ht hk H locs ls hW hl
      refine lv_iload_n hx hb dX2_init_108 rfl (lv_at hl 1 rfl) ?_
      refine lv_bipush (v := 48) hx hb dX2_init_109 (by decide) ?_
      refine lv_icmp_ge (tgt := 127) hx hb dX2_init_111 (by decide) (fun cc => ?_) (fun cc => ?_)
      · skip
        have h29 : 48 ≤ t := (nI_leI (a := 48) (b := t) (by omega) (by omega)).mp cc
        have e29 : t = 48 := by omega
        subst e29
        have hl := lv_sub hl [0] rfl
        have hl : lv_has ls 2 [(0, .ref h0)] := hl
        refine lv_iconst (v := 0) hx hb dX2_init_127 (by decide) ?_
        refine lv_istore_n (lv' := [(1, .int 0), (0, .ref h0)]) hx hb dX2_init_128 rfl hl (by decide) rfl (fun ls hl => ?_)
        refine lv_iload_n hx hb dX2_init_129 rfl (lv_at hl 0 rfl) ?_
        refine lv_aload_n hx hb dX2_init_130 rfl (lv_at hl 1 rfl) ?_
        refine gf_X2_35 X hW 0 rfl rfl dX2_init_131 ?_
        refine fz_al X hW 8 3 rfl rfl (v := 5) rfl dX2_init_134 ?_
        refine lv_icmp_ge (tgt := 157) hx hb dX2_init_135 (by decide) (fun cc => ?_) (fun cc => ?_)
        · exact absurd cc (by decide)
        · skip
          refine lv_aload_n hx hb dX2_init_138 rfl (lv_at hl 1 rfl) ?_
          refine gf_X2_35 X hW 0 rfl rfl dX2_init_139 ?_
          refine lv_iload_n hx hb dX2_init_142 rfl (lv_at hl 0 rfl) ?_
          refine fz_nw X hW (ci := 0) (fs := [.int 0, .int 0, .int 0, .int 0, .int 0, .int 0]) inX0 rfl tyX0 tyX0_ok cl_X2_33 ib_X0 ii_X0 (fun j hj => by rcases (show j = 0 ∨ j = 1 ∨ j = 2 ∨ j = 3 ∨ j = 4 ∨ j = 5 by omega) with rfl | rfl | rfl | rfl | rfl | rfl <;> rfl) (Nat.le_of_ble_eq_true rfl) (Nat.le_of_ble_eq_true rfl) dX2_init_143 (fun q12 H hW => ?_)
          have hW : fz_W g A s [(h0, .inr (2, [.ref q1, .ref q2, .ref q3, .ref q4, .ref q5, .ref q6, .ref q7, .ref q8, .int 0, .ref q9, .ref q11, .int 0, .int 0, .int 0])), (q1, .inl (g.2 0, 48, .inl (fun _ => 0))), (q2, .inl (g.2 0, 48, .inl (fun _ => 0))), (q3, .inl (g.2 0, 48, .inl (fz_to (fun _ => -1) (fun _ => 0) 48))), (q4, .inl (g.2 0, 48, .inl (fun _ => 0))), (q5, .inl (g.2 0, 48, .inl (fun _ => 0))), (q6, .inl (g.2 0, 48, .inl (fun _ => 0))), (q7, .inl (g.2 0, 48, .inl (fun _ => 0))), (q8, .inl (g.2 3, 5, .inr (.inr (.inr (.inr (fun _ => none)))))), (q9, .inr (1, [.ref q10, .int 0])), (q10, .inl (g.2 0, 8, .inl (fun _ => 0))), (q11, .inl (g.2 0, 4, .inl (fun _ => 0))), (q12, .inr (0, [.int 0, .int 0, .int 0, .int 0, .int 0, .int 0]))] H _ := hW
          refine lv_dup hx hb dX2_init_146 rfl ?_
          refine fz_cJ X hW (wc := [(q12, .inr (0, [.int 0, .int 0, .int 0, .int 0, .int 0, .int 0]))]) (wr := [(h0, .inr (2, [.ref q1, .ref q2, .ref q3, .ref q4, .ref q5, .ref q6, .ref q7, .ref q8, .int 0, .ref q9, .ref q11, .int 0, .int 0, .int 0])), (q1, .inl (g.2 0, 48, .inl (fun _ => 0))), (q2, .inl (g.2 0, 48, .inl (fun _ => 0))), (q3, .inl (g.2 0, 48, .inl (fz_to (fun _ => -1) (fun _ => 0) 48))), (q4, .inl (g.2 0, 48, .inl (fun _ => 0))), (q5, .inl (g.2 0, 48, .inl (fun _ => 0))), (q6, .inl (g.2 0, 48, .inl (fun _ => 0))), (q7, .inl (g.2 0, 48, .inl (fun _ => 0))), (q8, .inl (g.2 3, 5, .inr (.inr (.inr (.inr (fun _ => none)))))), (q9, .inr (1, [.ref q10, .int 0])), (q10, .inl (g.2 0, 8, .inl (fun _ => 0))), (q11, .inl (g.2 0, 4, .inl (fun _ => 0)))]) [12] [0, 1, 2, 3, 4, 5, 6, 7, 8, 9, 10, 11] (c_X0_init l g q12) lk_X2_62 rfl rfl rfl (by decide) (by decide) ⟨(Nat.le_of_ble_eq_true rfl), (Nat.le_of_ble_eq_true rfl)⟩ hl (Nat.le_of_ble_eq_true rfl) dX2_init_147 ⟨(Nat.le_of_ble_eq_true rfl), (Nat.le_of_ble_eq_true rfl)⟩ (fun W1 H locs hK hW => ?_)
          subst hK
          have hW : fz_W g A s [(h0, .inr (2, [.ref q1, .ref q2, .ref q3, .ref q4, .ref q5, .ref q6, .ref q7, .ref q8, .int 0, .ref q9, .ref q11, .int 0, .int 0, .int 0])), (q1, .inl (g.2 0, 48, .inl (fun _ => 0))), (q2, .inl (g.2 0, 48, .inl (fun _ => 0))), (q3, .inl (g.2 0, 48, .inl (fz_to (fun _ => -1) (fun _ => 0) 48))), (q4, .inl (g.2 0, 48, .inl (fun _ => 0))), (q5, .inl (g.2 0, 48, .inl (fun _ => 0))), (q6, .inl (g.2 0, 48, .inl (fun _ => 0))), (q7, .inl (g.2 0, 48, .inl (fun _ => 0))), (q8, .inl (g.2 3, 5, .inr (.inr (.inr (.inr (fun _ => none)))))), (q9, .inr (1, [.ref q10, .int 0])), (q10, .inl (g.2 0, 8, .inl (fun _ => 0))), (q11, .inl (g.2 0, 4, .inl (fun _ => 0))), (q12, .inr (0, [.int 0, .int 0, .int 0, .int 0, .int 0, .int 0]))] H _ := hW
          refine fz_sq X hW 8 0 12 0 rfl rfl rfl rfl rfl (by decide) (by decide) dX2_init_150 (fun H locs hW => ?_)
          have hW : fz_W g A s [(h0, .inr (2, [.ref q1, .ref q2, .ref q3, .ref q4, .ref q5, .ref q6, .ref q7, .ref q8, .int 0, .ref q9, .ref q11, .int 0, .int 0, .int 0])), (q1, .inl (g.2 0, 48, .inl (fun _ => 0))), (q2, .inl (g.2 0, 48, .inl (fun _ => 0))), (q3, .inl (g.2 0, 48, .inl (fz_to (fun _ => -1) (fun _ => 0) 48))), (q4, .inl (g.2 0, 48, .inl (fun _ => 0))), (q5, .inl (g.2 0, 48, .inl (fun _ => 0))), (q6, .inl (g.2 0, 48, .inl (fun _ => 0))), (q7, .inl (g.2 0, 48, .inl (fun _ => 0))), (q8, .inl (g.2 3, 5, .inr (.inr (.inr (.inr (va_up (fun _ => none) 0 (some q12))))))), (q9, .inr (1, [.ref q10, .int 0])), (q10, .inl (g.2 0, 8, .inl (fun _ => 0))), (q11, .inl (g.2 0, 4, .inl (fun _ => 0))), (q12, .inr (0, [.int 0, .int 0, .int 0, .int 0, .int 0, .int 0]))] H _ := hW
          refine lv_iinc (v := 1) (lv' := [(1, .int 1), (0, .ref h0)]) hx hb dX2_init_151 hl (k := 0) rfl rfl (by decide) rfl (fun ls hl => ?_)
          refine lv_goto (tgt := 129) hx hb dX2_init_154 (by decide) ?_
          refine lv_iload_n hx hb dX2_init_129 rfl (lv_at hl 0 rfl) ?_
          refine lv_aload_n hx hb dX2_init_130 rfl (lv_at hl 1 rfl) ?_
          refine gf_X2_35 X hW 0 rfl rfl dX2_init_131 ?_
          refine fz_al X hW 8 3 rfl rfl (v := 5) rfl dX2_init_134 ?_
          refine lv_icmp_ge (tgt := 157) hx hb dX2_init_135 (by decide) (fun cc => ?_) (fun cc => ?_)
          · exact absurd cc (by decide)
          · skip
            refine lv_aload_n hx hb dX2_init_138 rfl (lv_at hl 1 rfl) ?_
            refine gf_X2_35 X hW 0 rfl rfl dX2_init_139 ?_
            refine lv_iload_n hx hb dX2_init_142 rfl (lv_at hl 0 rfl) ?_
            refine fz_nw X hW (ci := 0) (fs := [.int 0, .int 0, .int 0, .int 0, .int 0, .int 0]) inX0 rfl tyX0 tyX0_ok cl_X2_33 ib_X0 ii_X0 (fun j hj => by rcases (show j = 0 ∨ j = 1 ∨ j = 2 ∨ j = 3 ∨ j = 4 ∨ j = 5 by omega) with rfl | rfl | rfl | rfl | rfl | rfl <;> rfl) (Nat.le_of_ble_eq_true rfl) (Nat.le_of_ble_eq_true rfl) dX2_init_143 (fun q13 H hW => ?_)
            have hW : fz_W g A s [(h0, .inr (2, [.ref q1, .ref q2, .ref q3, .ref q4, .ref q5, .ref q6, .ref q7, .ref q8, .int 0, .ref q9, .ref q11, .int 0, .int 0, .int 0])), (q1, .inl (g.2 0, 48, .inl (fun _ => 0))), (q2, .inl (g.2 0, 48, .inl (fun _ => 0))), (q3, .inl (g.2 0, 48, .inl (fz_to (fun _ => -1) (fun _ => 0) 48))), (q4, .inl (g.2 0, 48, .inl (fun _ => 0))), (q5, .inl (g.2 0, 48, .inl (fun _ => 0))), (q6, .inl (g.2 0, 48, .inl (fun _ => 0))), (q7, .inl (g.2 0, 48, .inl (fun _ => 0))), (q8, .inl (g.2 3, 5, .inr (.inr (.inr (.inr (va_up (fun _ => none) 0 (some q12))))))), (q9, .inr (1, [.ref q10, .int 0])), (q10, .inl (g.2 0, 8, .inl (fun _ => 0))), (q11, .inl (g.2 0, 4, .inl (fun _ => 0))), (q12, .inr (0, [.int 0, .int 0, .int 0, .int 0, .int 0, .int 0])), (q13, .inr (0, [.int 0, .int 0, .int 0, .int 0, .int 0, .int 0]))] H _ := hW
            refine lv_dup hx hb dX2_init_146 rfl ?_
            refine fz_cJ X hW (wc := [(q13, .inr (0, [.int 0, .int 0, .int 0, .int 0, .int 0, .int 0]))]) (wr := [(h0, .inr (2, [.ref q1, .ref q2, .ref q3, .ref q4, .ref q5, .ref q6, .ref q7, .ref q8, .int 0, .ref q9, .ref q11, .int 0, .int 0, .int 0])), (q1, .inl (g.2 0, 48, .inl (fun _ => 0))), (q2, .inl (g.2 0, 48, .inl (fun _ => 0))), (q3, .inl (g.2 0, 48, .inl (fz_to (fun _ => -1) (fun _ => 0) 48))), (q4, .inl (g.2 0, 48, .inl (fun _ => 0))), (q5, .inl (g.2 0, 48, .inl (fun _ => 0))), (q6, .inl (g.2 0, 48, .inl (fun _ => 0))), (q7, .inl (g.2 0, 48, .inl (fun _ => 0))), (q8, .inl (g.2 3, 5, .inr (.inr (.inr (.inr (va_up (fun _ => none) 0 (some q12))))))), (q9, .inr (1, [.ref q10, .int 0])), (q10, .inl (g.2 0, 8, .inl (fun _ => 0))), (q11, .inl (g.2 0, 4, .inl (fun _ => 0))), (q12, .inr (0, [.int 0, .int 0, .int 0, .int 0, .int 0, .int 0]))]) [13] [0, 1, 2, 3, 4, 5, 6, 7, 8, 9, 10, 11, 12] (c_X0_init l g q13) lk_X2_62 rfl rfl rfl (by decide) (by decide) ⟨(Nat.le_of_ble_eq_true rfl), (Nat.le_of_ble_eq_true rfl)⟩ hl (Nat.le_of_ble_eq_true rfl) dX2_init_147 ⟨(Nat.le_of_ble_eq_true rfl), (Nat.le_of_ble_eq_true rfl)⟩ (fun W1 H locs hK hW => ?_)
            subst hK
            have hW : fz_W g A s [(h0, .inr (2, [.ref q1, .ref q2, .ref q3, .ref q4, .ref q5, .ref q6, .ref q7, .ref q8, .int 0, .ref q9, .ref q11, .int 0, .int 0, .int 0])), (q1, .inl (g.2 0, 48, .inl (fun _ => 0))), (q2, .inl (g.2 0, 48, .inl (fun _ => 0))), (q3, .inl (g.2 0, 48, .inl (fz_to (fun _ => -1) (fun _ => 0) 48))), (q4, .inl (g.2 0, 48, .inl (fun _ => 0))), (q5, .inl (g.2 0, 48, .inl (fun _ => 0))), (q6, .inl (g.2 0, 48, .inl (fun _ => 0))), (q7, .inl (g.2 0, 48, .inl (fun _ => 0))), (q8, .inl (g.2 3, 5, .inr (.inr (.inr (.inr (va_up (fun _ => none) 0 (some q12))))))), (q9, .inr (1, [.ref q10, .int 0])), (q10, .inl (g.2 0, 8, .inl (fun _ => 0))), (q11, .inl (g.2 0, 4, .inl (fun _ => 0))), (q12, .inr (0, [.int 0, .int 0, .int 0, .int 0, .int 0, .int 0])), (q13, .inr (0, [.int 0, .int 0, .int 0, .int 0, .int 0, .int 0]))] H _ := hW
            refine fz_sq X hW 8 1 13 0 rfl rfl rfl rfl rfl (by decide) (by decide) dX2_init_150 (fun H locs hW => ?_)
            have hW : fz_W g A s [(h0, .inr (2, [.ref q1, .ref q2, .ref q3, .ref q4, .ref q5, .ref q6, .ref q7, .ref q8, .int 0, .ref q9, .ref q11, .int 0, .int 0, .int 0])), (q1, .inl (g.2 0, 48, .inl (fun _ => 0))), (q2, .inl (g.2 0, 48, .inl (fun _ => 0))), (q3, .inl (g.2 0, 48, .inl (fz_to (fun _ => -1) (fun _ => 0) 48))), (q4, .inl (g.2 0, 48, .inl (fun _ => 0))), (q5, .inl (g.2 0, 48, .inl (fun _ => 0))), (q6, .inl (g.2 0, 48, .inl (fun _ => 0))), (q7, .inl (g.2 0, 48, .inl (fun _ => 0))), (q8, .inl (g.2 3, 5, .inr (.inr (.inr (.inr (va_up (va_up (fun _ => none) 0 (some q12)) 1 (some q13))))))), (q9, .inr (1, [.ref q10, .int 0])), (q10, .inl (g.2 0, 8, .inl (fun _ => 0))), (q11, .inl (g.2 0, 4, .inl (fun _ => 0))), (q12, .inr (0, [.int 0, .int 0, .int 0, .int 0, .int 0, .int 0])), (q13, .inr (0, [.int 0, .int 0, .int 0, .int 0, .int 0, .int 0]))] H _ := hW
            refine lv_iinc (v := 2) (lv' := [(1, .int 2), (0, .ref h0)]) hx hb dX2_init_151 hl (k := 0) rfl rfl (by decide) rfl (fun ls hl => ?_)
            refine lv_goto (tgt := 129) hx hb dX2_init_154 (by decide) ?_
            refine lv_iload_n hx hb dX2_init_129 rfl (lv_at hl 0 rfl) ?_
            refine lv_aload_n hx hb dX2_init_130 rfl (lv_at hl 1 rfl) ?_
            refine gf_X2_35 X hW 0 rfl rfl dX2_init_131 ?_
            refine fz_al X hW 8 3 rfl rfl (v := 5) rfl dX2_init_134 ?_
            refine lv_icmp_ge (tgt := 157) hx hb dX2_init_135 (by decide) (fun cc => ?_) (fun cc => ?_)
            · exact absurd cc (by decide)
            · skip
              refine lv_aload_n hx hb dX2_init_138 rfl (lv_at hl 1 rfl) ?_
              refine gf_X2_35 X hW 0 rfl rfl dX2_init_139 ?_
              refine lv_iload_n hx hb dX2_init_142 rfl (lv_at hl 0 rfl) ?_
              refine fz_nw X hW (ci := 0) (fs := [.int 0, .int 0, .int 0, .int 0, .int 0, .int 0]) inX0 rfl tyX0 tyX0_ok cl_X2_33 ib_X0 ii_X0 (fun j hj => by rcases (show j = 0 ∨ j = 1 ∨ j = 2 ∨ j = 3 ∨ j = 4 ∨ j = 5 by omega) with rfl | rfl | rfl | rfl | rfl | rfl <;> rfl) (Nat.le_of_ble_eq_true rfl) (Nat.le_of_ble_eq_true rfl) dX2_init_143 (fun q14 H hW => ?_)
              have hW : fz_W g A s [(h0, .inr (2, [.ref q1, .ref q2, .ref q3, .ref q4, .ref q5, .ref q6, .ref q7, .ref q8, .int 0, .ref q9, .ref q11, .int 0, .int 0, .int 0])), (q1, .inl (g.2 0, 48, .inl (fun _ => 0))), (q2, .inl (g.2 0, 48, .inl (fun _ => 0))), (q3, .inl (g.2 0, 48, .inl (fz_to (fun _ => -1) (fun _ => 0) 48))), (q4, .inl (g.2 0, 48, .inl (fun _ => 0))), (q5, .inl (g.2 0, 48, .inl (fun _ => 0))), (q6, .inl (g.2 0, 48, .inl (fun _ => 0))), (q7, .inl (g.2 0, 48, .inl (fun _ => 0))), (q8, .inl (g.2 3, 5, .inr (.inr (.inr (.inr (va_up (va_up (fun _ => none) 0 (some q12)) 1 (some q13))))))), (q9, .inr (1, [.ref q10, .int 0])), (q10, .inl (g.2 0, 8, .inl (fun _ => 0))), (q11, .inl (g.2 0, 4, .inl (fun _ => 0))), (q12, .inr (0, [.int 0, .int 0, .int 0, .int 0, .int 0, .int 0])), (q13, .inr (0, [.int 0, .int 0, .int 0, .int 0, .int 0, .int 0])), (q14, .inr (0, [.int 0, .int 0, .int 0, .int 0, .int 0, .int 0]))] H _ := hW
              refine lv_dup hx hb dX2_init_146 rfl ?_
              refine fz_cJ X hW (wc := [(q14, .inr (0, [.int 0, .int 0, .int 0, .int 0, .int 0, .int 0]))]) (wr := [(h0, .inr (2, [.ref q1, .ref q2, .ref q3, .ref q4, .ref q5, .ref q6, .ref q7, .ref q8, .int 0, .ref q9, .ref q11, .int 0, .int 0, .int 0])), (q1, .inl (g.2 0, 48, .inl (fun _ => 0))), (q2, .inl (g.2 0, 48, .inl (fun _ => 0))), (q3, .inl (g.2 0, 48, .inl (fz_to (fun _ => -1) (fun _ => 0) 48))), (q4, .inl (g.2 0, 48, .inl (fun _ => 0))), (q5, .inl (g.2 0, 48, .inl (fun _ => 0))), (q6, .inl (g.2 0, 48, .inl (fun _ => 0))), (q7, .inl (g.2 0, 48, .inl (fun _ => 0))), (q8, .inl (g.2 3, 5, .inr (.inr (.inr (.inr (va_up (va_up (fun _ => none) 0 (some q12)) 1 (some q13))))))), (q9, .inr (1, [.ref q10, .int 0])), (q10, .inl (g.2 0, 8, .inl (fun _ => 0))), (q11, .inl (g.2 0, 4, .inl (fun _ => 0))), (q12, .inr (0, [.int 0, .int 0, .int 0, .int 0, .int 0, .int 0])), (q13, .inr (0, [.int 0, .int 0, .int 0, .int 0, .int 0, .int 0]))]) [14] [0, 1, 2, 3, 4, 5, 6, 7, 8, 9, 10, 11, 12, 13] (c_X0_init l g q14) lk_X2_62 rfl rfl rfl (by decide) (by decide) ⟨(Nat.le_of_ble_eq_true rfl), (Nat.le_of_ble_eq_true rfl)⟩ hl (Nat.le_of_ble_eq_true rfl) dX2_init_147 ⟨(Nat.le_of_ble_eq_true rfl), (Nat.le_of_ble_eq_true rfl)⟩ (fun W1 H locs hK hW => ?_)
              subst hK
              have hW : fz_W g A s [(h0, .inr (2, [.ref q1, .ref q2, .ref q3, .ref q4, .ref q5, .ref q6, .ref q7, .ref q8, .int 0, .ref q9, .ref q11, .int 0, .int 0, .int 0])), (q1, .inl (g.2 0, 48, .inl (fun _ => 0))), (q2, .inl (g.2 0, 48, .inl (fun _ => 0))), (q3, .inl (g.2 0, 48, .inl (fz_to (fun _ => -1) (fun _ => 0) 48))), (q4, .inl (g.2 0, 48, .inl (fun _ => 0))), (q5, .inl (g.2 0, 48, .inl (fun _ => 0))), (q6, .inl (g.2 0, 48, .inl (fun _ => 0))), (q7, .inl (g.2 0, 48, .inl (fun _ => 0))), (q8, .inl (g.2 3, 5, .inr (.inr (.inr (.inr (va_up (va_up (fun _ => none) 0 (some q12)) 1 (some q13))))))), (q9, .inr (1, [.ref q10, .int 0])), (q10, .inl (g.2 0, 8, .inl (fun _ => 0))), (q11, .inl (g.2 0, 4, .inl (fun _ => 0))), (q12, .inr (0, [.int 0, .int 0, .int 0, .int 0, .int 0, .int 0])), (q13, .inr (0, [.int 0, .int 0, .int 0, .int 0, .int 0, .int 0])), (q14, .inr (0, [.int 0, .int 0, .int 0, .int 0, .int 0, .int 0]))] H _ := hW
              refine fz_sq X hW 8 2 14 0 rfl rfl rfl rfl rfl (by decide) (by decide) dX2_init_150 (fun H locs hW => ?_)
              have hW : fz_W g A s [(h0, .inr (2, [.ref q1, .ref q2, .ref q3, .ref q4, .ref q5, .ref q6, .ref q7, .ref q8, .int 0, .ref q9, .ref q11, .int 0, .int 0, .int 0])), (q1, .inl (g.2 0, 48, .inl (fun _ => 0))), (q2, .inl (g.2 0, 48, .inl (fun _ => 0))), (q3, .inl (g.2 0, 48, .inl (fz_to (fun _ => -1) (fun _ => 0) 48))), (q4, .inl (g.2 0, 48, .inl (fun _ => 0))), (q5, .inl (g.2 0, 48, .inl (fun _ => 0))), (q6, .inl (g.2 0, 48, .inl (fun _ => 0))), (q7, .inl (g.2 0, 48, .inl (fun _ => 0))), (q8, .inl (g.2 3, 5, .inr (.inr (.inr (.inr (va_up (va_up (va_up (fun _ => none) 0 (some q12)) 1 (some q13)) 2 (some q14))))))), (q9, .inr (1, [.ref q10, .int 0])), (q10, .inl (g.2 0, 8, .inl (fun _ => 0))), (q11, .inl (g.2 0, 4, .inl (fun _ => 0))), (q12, .inr (0, [.int 0, .int 0, .int 0, .int 0, .int 0, .int 0])), (q13, .inr (0, [.int 0, .int 0, .int 0, .int 0, .int 0, .int 0])), (q14, .inr (0, [.int 0, .int 0, .int 0, .int 0, .int 0, .int 0]))] H _ := hW
              refine lv_iinc (v := 3) (lv' := [(1, .int 3), (0, .ref h0)]) hx hb dX2_init_151 hl (k := 0) rfl rfl (by decide) rfl (fun ls hl => ?_)
              refine lv_goto (tgt := 129) hx hb dX2_init_154 (by decide) ?_
              refine lv_iload_n hx hb dX2_init_129 rfl (lv_at hl 0 rfl) ?_
              refine lv_aload_n hx hb dX2_init_130 rfl (lv_at hl 1 rfl) ?_
              refine gf_X2_35 X hW 0 rfl rfl dX2_init_131 ?_
              refine fz_al X hW 8 3 rfl rfl (v := 5) rfl dX2_init_134 ?_
              refine lv_icmp_ge (tgt := 157) hx hb dX2_init_135 (by decide) (fun cc => ?_) (fun cc => ?_)
              · exact absurd cc (by decide)
              · skip
                refine lv_aload_n hx hb dX2_init_138 rfl (lv_at hl 1 rfl) ?_
                refine gf_X2_35 X hW 0 rfl rfl dX2_init_139 ?_
                refine lv_iload_n hx hb dX2_init_142 rfl (lv_at hl 0 rfl) ?_
                refine fz_nw X hW (ci := 0) (fs := [.int 0, .int 0, .int 0, .int 0, .int 0, .int 0]) inX0 rfl tyX0 tyX0_ok cl_X2_33 ib_X0 ii_X0 (fun j hj => by rcases (show j = 0 ∨ j = 1 ∨ j = 2 ∨ j = 3 ∨ j = 4 ∨ j = 5 by omega) with rfl | rfl | rfl | rfl | rfl | rfl <;> rfl) (Nat.le_of_ble_eq_true rfl) (Nat.le_of_ble_eq_true rfl) dX2_init_143 (fun q15 H hW => ?_)
                have hW : fz_W g A s [(h0, .inr (2, [.ref q1, .ref q2, .ref q3, .ref q4, .ref q5, .ref q6, .ref q7, .ref q8, .int 0, .ref q9, .ref q11, .int 0, .int 0, .int 0])), (q1, .inl (g.2 0, 48, .inl (fun _ => 0))), (q2, .inl (g.2 0, 48, .inl (fun _ => 0))), (q3, .inl (g.2 0, 48, .inl (fz_to (fun _ => -1) (fun _ => 0) 48))), (q4, .inl (g.2 0, 48, .inl (fun _ => 0))), (q5, .inl (g.2 0, 48, .inl (fun _ => 0))), (q6, .inl (g.2 0, 48, .inl (fun _ => 0))), (q7, .inl (g.2 0, 48, .inl (fun _ => 0))), (q8, .inl (g.2 3, 5, .inr (.inr (.inr (.inr (va_up (va_up (va_up (fun _ => none) 0 (some q12)) 1 (some q13)) 2 (some q14))))))), (q9, .inr (1, [.ref q10, .int 0])), (q10, .inl (g.2 0, 8, .inl (fun _ => 0))), (q11, .inl (g.2 0, 4, .inl (fun _ => 0))), (q12, .inr (0, [.int 0, .int 0, .int 0, .int 0, .int 0, .int 0])), (q13, .inr (0, [.int 0, .int 0, .int 0, .int 0, .int 0, .int 0])), (q14, .inr (0, [.int 0, .int 0, .int 0, .int 0, .int 0, .int 0])), (q15, .inr (0, [.int 0, .int 0, .int 0, .int 0, .int 0, .int 0]))] H _ := hW
                refine lv_dup hx hb dX2_init_146 rfl ?_
                refine fz_cJ X hW (wc := [(q15, .inr (0, [.int 0, .int 0, .int 0, .int 0, .int 0, .int 0]))]) (wr := [(h0, .inr (2, [.ref q1, .ref q2, .ref q3, .ref q4, .ref q5, .ref q6, .ref q7, .ref q8, .int 0, .ref q9, .ref q11, .int 0, .int 0, .int 0])), (q1, .inl (g.2 0, 48, .inl (fun _ => 0))), (q2, .inl (g.2 0, 48, .inl (fun _ => 0))), (q3, .inl (g.2 0, 48, .inl (fz_to (fun _ => -1) (fun _ => 0) 48))), (q4, .inl (g.2 0, 48, .inl (fun _ => 0))), (q5, .inl (g.2 0, 48, .inl (fun _ => 0))), (q6, .inl (g.2 0, 48, .inl (fun _ => 0))), (q7, .inl (g.2 0, 48, .inl (fun _ => 0))), (q8, .inl (g.2 3, 5, .inr (.inr (.inr (.inr (va_up (va_up (va_up (fun _ => none) 0 (some q12)) 1 (some q13)) 2 (some q14))))))), (q9, .inr (1, [.ref q10, .int 0])), (q10, .inl (g.2 0, 8, .inl (fun _ => 0))), (q11, .inl (g.2 0, 4, .inl (fun _ => 0))), (q12, .inr (0, [.int 0, .int 0, .int 0, .int 0, .int 0, .int 0])), (q13, .inr (0, [.int 0, .int 0, .int 0, .int 0, .int 0, .int 0])), (q14, .inr (0, [.int 0, .int 0, .int 0, .int 0, .int 0, .int 0]))]) [15] [0, 1, 2, 3, 4, 5, 6, 7, 8, 9, 10, 11, 12, 13, 14] (c_X0_init l g q15) lk_X2_62 rfl rfl rfl (by decide) (by decide) ⟨(Nat.le_of_ble_eq_true rfl), (Nat.le_of_ble_eq_true rfl)⟩ hl (Nat.le_of_ble_eq_true rfl) dX2_init_147 ⟨(Nat.le_of_ble_eq_true rfl), (Nat.le_of_ble_eq_true rfl)⟩ (fun W1 H locs hK hW => ?_)
                subst hK
                have hW : fz_W g A s [(h0, .inr (2, [.ref q1, .ref q2, .ref q3, .ref q4, .ref q5, .ref q6, .ref q7, .ref q8, .int 0, .ref q9, .ref q11, .int 0, .int 0, .int 0])), (q1, .inl (g.2 0, 48, .inl (fun _ => 0))), (q2, .inl (g.2 0, 48, .inl (fun _ => 0))), (q3, .inl (g.2 0, 48, .inl (fz_to (fun _ => -1) (fun _ => 0) 48))), (q4, .inl (g.2 0, 48, .inl (fun _ => 0))), (q5, .inl (g.2 0, 48, .inl (fun _ => 0))), (q6, .inl (g.2 0, 48, .inl (fun _ => 0))), (q7, .inl (g.2 0, 48, .inl (fun _ => 0))), (q8, .inl (g.2 3, 5, .inr (.inr (.inr (.inr (va_up (va_up (va_up (fun _ => none) 0 (some q12)) 1 (some q13)) 2 (some q14))))))), (q9, .inr (1, [.ref q10, .int 0])), (q10, .inl (g.2 0, 8, .inl (fun _ => 0))), (q11, .inl (g.2 0, 4, .inl (fun _ => 0))), (q12, .inr (0, [.int 0, .int 0, .int 0, .int 0, .int 0, .int 0])), (q13, .inr (0, [.int 0, .int 0, .int 0, .int 0, .int 0, .int 0])), (q14, .inr (0, [.int 0, .int 0, .int 0, .int 0, .int 0, .int 0])), (q15, .inr (0, [.int 0, .int 0, .int 0, .int 0, .int 0, .int 0]))] H _ := hW
                refine fz_sq X hW 8 3 15 0 rfl rfl rfl rfl rfl (by decide) (by decide) dX2_init_150 (fun H locs hW => ?_)
                have hW : fz_W g A s [(h0, .inr (2, [.ref q1, .ref q2, .ref q3, .ref q4, .ref q5, .ref q6, .ref q7, .ref q8, .int 0, .ref q9, .ref q11, .int 0, .int 0, .int 0])), (q1, .inl (g.2 0, 48, .inl (fun _ => 0))), (q2, .inl (g.2 0, 48, .inl (fun _ => 0))), (q3, .inl (g.2 0, 48, .inl (fz_to (fun _ => -1) (fun _ => 0) 48))), (q4, .inl (g.2 0, 48, .inl (fun _ => 0))), (q5, .inl (g.2 0, 48, .inl (fun _ => 0))), (q6, .inl (g.2 0, 48, .inl (fun _ => 0))), (q7, .inl (g.2 0, 48, .inl (fun _ => 0))), (q8, .inl (g.2 3, 5, .inr (.inr (.inr (.inr (va_up (va_up (va_up (va_up (fun _ => none) 0 (some q12)) 1 (some q13)) 2 (some q14)) 3 (some q15))))))), (q9, .inr (1, [.ref q10, .int 0])), (q10, .inl (g.2 0, 8, .inl (fun _ => 0))), (q11, .inl (g.2 0, 4, .inl (fun _ => 0))), (q12, .inr (0, [.int 0, .int 0, .int 0, .int 0, .int 0, .int 0])), (q13, .inr (0, [.int 0, .int 0, .int 0, .int 0, .int 0, .int 0])), (q14, .inr (0, [.int 0, .int 0, .int 0, .int 0, .int 0, .int 0])), (q15, .inr (0, [.int 0, .int 0, .int 0, .int 0, .int 0, .int 0]))] H _ := hW
                refine lv_iinc (v := 4) (lv' := [(1, .int 4), (0, .ref h0)]) hx hb dX2_init_151 hl (k := 0) rfl rfl (by decide) rfl (fun ls hl => ?_)
                refine lv_goto (tgt := 129) hx hb dX2_init_154 (by decide) ?_
                refine lv_iload_n hx hb dX2_init_129 rfl (lv_at hl 0 rfl) ?_
                refine lv_aload_n hx hb dX2_init_130 rfl (lv_at hl 1 rfl) ?_
                refine gf_X2_35 X hW 0 rfl rfl dX2_init_131 ?_
                refine fz_al X hW 8 3 rfl rfl (v := 5) rfl dX2_init_134 ?_
                refine lv_icmp_ge (tgt := 157) hx hb dX2_init_135 (by decide) (fun cc => ?_) (fun cc => ?_)
                · exact absurd cc (by decide)
                · skip
                  refine lv_aload_n hx hb dX2_init_138 rfl (lv_at hl 1 rfl) ?_
                  refine gf_X2_35 X hW 0 rfl rfl dX2_init_139 ?_
                  refine lv_iload_n hx hb dX2_init_142 rfl (lv_at hl 0 rfl) ?_
                  refine fz_nw X hW (ci := 0) (fs := [.int 0, .int 0, .int 0, .int 0, .int 0, .int 0]) inX0 rfl tyX0 tyX0_ok cl_X2_33 ib_X0 ii_X0 (fun j hj => by rcases (show j = 0 ∨ j = 1 ∨ j = 2 ∨ j = 3 ∨ j = 4 ∨ j = 5 by omega) with rfl | rfl | rfl | rfl | rfl | rfl <;> rfl) (Nat.le_of_ble_eq_true rfl) (Nat.le_of_ble_eq_true rfl) dX2_init_143 (fun q16 H hW => ?_)
                  have hW : fz_W g A s [(h0, .inr (2, [.ref q1, .ref q2, .ref q3, .ref q4, .ref q5, .ref q6, .ref q7, .ref q8, .int 0, .ref q9, .ref q11, .int 0, .int 0, .int 0])), (q1, .inl (g.2 0, 48, .inl (fun _ => 0))), (q2, .inl (g.2 0, 48, .inl (fun _ => 0))), (q3, .inl (g.2 0, 48, .inl (fz_to (fun _ => -1) (fun _ => 0) 48))), (q4, .inl (g.2 0, 48, .inl (fun _ => 0))), (q5, .inl (g.2 0, 48, .inl (fun _ => 0))), (q6, .inl (g.2 0, 48, .inl (fun _ => 0))), (q7, .inl (g.2 0, 48, .inl (fun _ => 0))), (q8, .inl (g.2 3, 5, .inr (.inr (.inr (.inr (va_up (va_up (va_up (va_up (fun _ => none) 0 (some q12)) 1 (some q13)) 2 (some q14)) 3 (some q15))))))), (q9, .inr (1, [.ref q10, .int 0])), (q10, .inl (g.2 0, 8, .inl (fun _ => 0))), (q11, .inl (g.2 0, 4, .inl (fun _ => 0))), (q12, .inr (0, [.int 0, .int 0, .int 0, .int 0, .int 0, .int 0])), (q13, .inr (0, [.int 0, .int 0, .int 0, .int 0, .int 0, .int 0])), (q14, .inr (0, [.int 0, .int 0, .int 0, .int 0, .int 0, .int 0])), (q15, .inr (0, [.int 0, .int 0, .int 0, .int 0, .int 0, .int 0])), (q16, .inr (0, [.int 0, .int 0, .int 0, .int 0, .int 0, .int 0]))] H _ := hW
                  refine lv_dup hx hb dX2_init_146 rfl ?_
                  refine fz_cJ X hW (wc := [(q16, .inr (0, [.int 0, .int 0, .int 0, .int 0, .int 0, .int 0]))]) (wr := [(h0, .inr (2, [.ref q1, .ref q2, .ref q3, .ref q4, .ref q5, .ref q6, .ref q7, .ref q8, .int 0, .ref q9, .ref q11, .int 0, .int 0, .int 0])), (q1, .inl (g.2 0, 48, .inl (fun _ => 0))), (q2, .inl (g.2 0, 48, .inl (fun _ => 0))), (q3, .inl (g.2 0, 48, .inl (fz_to (fun _ => -1) (fun _ => 0) 48))), (q4, .inl (g.2 0, 48, .inl (fun _ => 0))), (q5, .inl (g.2 0, 48, .inl (fun _ => 0))), (q6, .inl (g.2 0, 48, .inl (fun _ => 0))), (q7, .inl (g.2 0, 48, .inl (fun _ => 0))), (q8, .inl (g.2 3, 5, .inr (.inr (.inr (.inr (va_up (va_up (va_up (va_up (fun _ => none) 0 (some q12)) 1 (some q13)) 2 (some q14)) 3 (some q15))))))), (q9, .inr (1, [.ref q10, .int 0])), (q10, .inl (g.2 0, 8, .inl (fun _ => 0))), (q11, .inl (g.2 0, 4, .inl (fun _ => 0))), (q12, .inr (0, [.int 0, .int 0, .int 0, .int 0, .int 0, .int 0])), (q13, .inr (0, [.int 0, .int 0, .int 0, .int 0, .int 0, .int 0])), (q14, .inr (0, [.int 0, .int 0, .int 0, .int 0, .int 0, .int 0])), (q15, .inr (0, [.int 0, .int 0, .int 0, .int 0, .int 0, .int 0]))]) [16] [0, 1, 2, 3, 4, 5, 6, 7, 8, 9, 10, 11, 12, 13, 14, 15] (c_X0_init l g q16) lk_X2_62 rfl rfl rfl (by decide) (by decide) ⟨(Nat.le_of_ble_eq_true rfl), (Nat.le_of_ble_eq_true rfl)⟩ hl (Nat.le_of_ble_eq_true rfl) dX2_init_147 ⟨(Nat.le_of_ble_eq_true rfl), (Nat.le_of_ble_eq_true rfl)⟩ (fun W1 H locs hK hW => ?_)
                  subst hK
                  have hW : fz_W g A s [(h0, .inr (2, [.ref q1, .ref q2, .ref q3, .ref q4, .ref q5, .ref q6, .ref q7, .ref q8, .int 0, .ref q9, .ref q11, .int 0, .int 0, .int 0])), (q1, .inl (g.2 0, 48, .inl (fun _ => 0))), (q2, .inl (g.2 0, 48, .inl (fun _ => 0))), (q3, .inl (g.2 0, 48, .inl (fz_to (fun _ => -1) (fun _ => 0) 48))), (q4, .inl (g.2 0, 48, .inl (fun _ => 0))), (q5, .inl (g.2 0, 48, .inl (fun _ => 0))), (q6, .inl (g.2 0, 48, .inl (fun _ => 0))), (q7, .inl (g.2 0, 48, .inl (fun _ => 0))), (q8, .inl (g.2 3, 5, .inr (.inr (.inr (.inr (va_up (va_up (va_up (va_up (fun _ => none) 0 (some q12)) 1 (some q13)) 2 (some q14)) 3 (some q15))))))), (q9, .inr (1, [.ref q10, .int 0])), (q10, .inl (g.2 0, 8, .inl (fun _ => 0))), (q11, .inl (g.2 0, 4, .inl (fun _ => 0))), (q12, .inr (0, [.int 0, .int 0, .int 0, .int 0, .int 0, .int 0])), (q13, .inr (0, [.int 0, .int 0, .int 0, .int 0, .int 0, .int 0])), (q14, .inr (0, [.int 0, .int 0, .int 0, .int 0, .int 0, .int 0])), (q15, .inr (0, [.int 0, .int 0, .int 0, .int 0, .int 0, .int 0])), (q16, .inr (0, [.int 0, .int 0, .int 0, .int 0, .int 0, .int 0]))] H _ := hW
                  refine fz_sq X hW 8 4 16 0 rfl rfl rfl rfl rfl (by decide) (by decide) dX2_init_150 (fun H locs hW => ?_)
                  have hW : fz_W g A s [(h0, .inr (2, [.ref q1, .ref q2, .ref q3, .ref q4, .ref q5, .ref q6, .ref q7, .ref q8, .int 0, .ref q9, .ref q11, .int 0, .int 0, .int 0])), (q1, .inl (g.2 0, 48, .inl (fun _ => 0))), (q2, .inl (g.2 0, 48, .inl (fun _ => 0))), (q3, .inl (g.2 0, 48, .inl (fz_to (fun _ => -1) (fun _ => 0) 48))), (q4, .inl (g.2 0, 48, .inl (fun _ => 0))), (q5, .inl (g.2 0, 48, .inl (fun _ => 0))), (q6, .inl (g.2 0, 48, .inl (fun _ => 0))), (q7, .inl (g.2 0, 48, .inl (fun _ => 0))), (q8, .inl (g.2 3, 5, .inr (.inr (.inr (.inr (va_up (va_up (va_up (va_up (va_up (fun _ => none) 0 (some q12)) 1 (some q13)) 2 (some q14)) 3 (some q15)) 4 (some q16))))))), (q9, .inr (1, [.ref q10, .int 0])), (q10, .inl (g.2 0, 8, .inl (fun _ => 0))), (q11, .inl (g.2 0, 4, .inl (fun _ => 0))), (q12, .inr (0, [.int 0, .int 0, .int 0, .int 0, .int 0, .int 0])), (q13, .inr (0, [.int 0, .int 0, .int 0, .int 0, .int 0, .int 0])), (q14, .inr (0, [.int 0, .int 0, .int 0, .int 0, .int 0, .int 0])), (q15, .inr (0, [.int 0, .int 0, .int 0, .int 0, .int 0, .int 0])), (q16, .inr (0, [.int 0, .int 0, .int 0, .int 0, .int 0, .int 0]))] H _ := hW
                  refine lv_iinc (v := 5) (lv' := [(1, .int 5), (0, .ref h0)]) hx hb dX2_init_151 hl (k := 0) rfl rfl (by decide) rfl (fun ls hl => ?_)
                  refine lv_goto (tgt := 129) hx hb dX2_init_154 (by decide) ?_
                  refine lv_iload_n hx hb dX2_init_129 rfl (lv_at hl 0 rfl) ?_
                  refine lv_aload_n hx hb dX2_init_130 rfl (lv_at hl 1 rfl) ?_
                  refine gf_X2_35 X hW 0 rfl rfl dX2_init_131 ?_
                  refine fz_al X hW 8 3 rfl rfl (v := 5) rfl dX2_init_134 ?_
                  refine lv_icmp_ge (tgt := 157) hx hb dX2_init_135 (by decide) (fun cc => ?_) (fun cc => ?_)
                  · skip
                    have hW := fz_cast (congrArg (fun z => ([(h0, .inr (2, [.ref q1, .ref q2, .ref q3, .ref q4, .ref q5, .ref q6, .ref q7, .ref q8, .int 0, .ref q9, .ref q11, .int 0, .int 0, .int 0])), (q1, .inl (g.2 0, 48, .inl (fun _ => 0))), (q2, .inl (g.2 0, 48, .inl (fun _ => 0))), (q3, .inl (g.2 0, 48, .inl (fz_to (fun _ => -1) (fun _ => 0) 48))), (q4, .inl (g.2 0, 48, .inl (fun _ => 0))), (q5, .inl (g.2 0, 48, .inl (fun _ => 0))), (q6, .inl (g.2 0, 48, .inl (fun _ => 0))), (q7, .inl (g.2 0, 48, .inl (fun _ => 0))), (q8, .inl (g.2 3, 5, .inr (.inr (.inr (.inr z))))), (q9, .inr (1, [.ref q10, .int 0])), (q10, .inl (g.2 0, 8, .inl (fun _ => 0))), (q11, .inl (g.2 0, 4, .inl (fun _ => 0))), (q12, .inr (0, [.int 0, .int 0, .int 0, .int 0, .int 0, .int 0])), (q13, .inr (0, [.int 0, .int 0, .int 0, .int 0, .int 0, .int 0])), (q14, .inr (0, [.int 0, .int 0, .int 0, .int 0, .int 0, .int 0])), (q15, .inr (0, [.int 0, .int 0, .int 0, .int 0, .int 0, .int 0])), (q16, .inr (0, [.int 0, .int 0, .int 0, .int 0, .int 0, .int 0]))] : va_W)) (va_up5 (fun j => [h0, q1, q2, q3, q4, q5, q6, q7, q8, q9, q10, q11, q12, q13, q14, q15, q16].getD j 0))) hW
                    exact fz_rvN X hW ⟨(fun j => [h0, q1, q2, q3, q4, q5, q6, q7, q8, q9, q10, q11, q12, q13, q14, q15, q16].getD j 0), rfl, rfl⟩ ⟨(Nat.le_of_ble_eq_true rfl), (Nat.le_of_ble_eq_true rfl)⟩ dX2_init_157
                  · exact absurd (by decide) cc
      · skip
        have h29 : t < 48 := Nat.not_le.mp (fun z => cc ((nI_leI (a := 48) (b := t) (by omega) (by omega)).mpr z))
        refine lv_aload_n hx hb dX2_init_114 rfl (lv_at hl 0 rfl) ?_
        refine gf_X2_18 X hW 0 rfl rfl dX2_init_115 ?_
        refine lv_iload_n hx hb dX2_init_118 rfl (lv_at hl 1 rfl) ?_
        refine lv_iconst (v := (-1)) hx hb dX2_init_119 (by decide) ?_
        refine fz_is X hW 3 t rfl rfl (by omega) (by decide) dX2_init_120 (fun H locs hW => ?_)
        refine lv_iinc (v := nI (t + 1)) (lv' := [(1, .int (nI (t + 1))), (0, .ref h0)]) hx hb dX2_init_121 hl (k := 1) rfl (nI_1 _) (by decide) rfl (fun ls hl => ?_)
        refine lv_goto (tgt := 108) hx hb dX2_init_124 (by decide) ?_
        exact ih (t + 1) (by omega) (by omega) _ _ _ (fz_cast (congrArg (fun z => ([(h0, .inr (2, [.ref q1, .ref q2, .ref q3, .ref q4, .ref q5, .ref q6, .ref q7, .ref q8, .int 0, .ref q9, .ref q11, .int 0, .int 0, .int 0])), (q1, .inl (g.2 0, 48, .inl (fun _ => 0))), (q2, .inl (g.2 0, 48, .inl (fun _ => 0))), (q3, .inl (g.2 0, 48, .inl z)), (q4, .inl (g.2 0, 48, .inl (fun _ => 0))), (q5, .inl (g.2 0, 48, .inl (fun _ => 0))), (q6, .inl (g.2 0, 48, .inl (fun _ => 0))), (q7, .inl (g.2 0, 48, .inl (fun _ => 0))), (q8, .inl (g.2 3, 5, .inr (.inr (.inr (.inr (fun _ => none)))))), (q9, .inr (1, [.ref q10, .int 0])), (q10, .inl (g.2 0, 8, .inl (fun _ => 0))), (q11, .inl (g.2 0, 4, .inl (fun _ => 0)))] : va_W)) (fz_to_s (fun _ => -1) (fun _ => 0) t rfl)) hW) (lv_sub hl [1, 0] rfl)
  exact loop 49 0 (by omega) (by omega) _ _ _ (fz_cast (congrArg (fun z => ([(h0, .inr (2, [.ref q1, .ref q2, .ref q3, .ref q4, .ref q5, .ref q6, .ref q7, .ref q8, .int 0, .ref q9, .ref q11, .int 0, .int 0, .int 0])), (q1, .inl (g.2 0, 48, .inl (fun _ => 0))), (q2, .inl (g.2 0, 48, .inl (fun _ => 0))), (q3, .inl (g.2 0, 48, .inl z)), (q4, .inl (g.2 0, 48, .inl (fun _ => 0))), (q5, .inl (g.2 0, 48, .inl (fun _ => 0))), (q6, .inl (g.2 0, 48, .inl (fun _ => 0))), (q7, .inl (g.2 0, 48, .inl (fun _ => 0))), (q8, .inl (g.2 3, 5, .inr (.inr (.inr (.inr (fun _ => none)))))), (q9, .inr (1, [.ref q10, .int 0])), (q10, .inl (g.2 0, 8, .inl (fun _ => 0))), (q11, .inl (g.2 0, 4, .inl (fun _ => 0)))] : va_W)) (fz_to_0 (fun _ => -1) (fun _ => 0)).symm) hW) (lv_sub hl [1, 0] rfl)
set_option maxHeartbeats 4000000 in
set_option maxRecDepth 100000 in
theorem c_X3_init (l : Launch) (g : GG) (h0 : Nat) : fz_CN l g yX3_init cX3_init 1 3 34 798 65 [.ref h0] [(h0, .inr (3, [.null, .null]))] (fun W => ∃ a b : Nat → Nat, W = FW g h0 a b SV0 SV0) := by
  refine fz_CN.of (by decide) (Nat.le_of_ble_eq_true rfl) ?_
  intro p e s m args below meth c A ls X hin hW hl
  have hx := X.1
  have hb := X.2.1
  have hl : lv_has ls 1 [(0, .ref h0)] := hl
  have X : fz_X p s m meth c RX3 cX3_init 1 none g A := X
  have hin : meth.name = "<init>" := hin
  have hW : fz_W g A s [(h0, .inr (3, [.null, .null]))] s.heap _ := hW
  refine lv_aload_n hx hb dX3_init_0 rfl (lv_at hl 0 rfl) ?_
  refine fz_oi X hl oi_X3 oi_i oi_c (Nat.le_of_ble_eq_true rfl) (Nat.le_of_ble_eq_true rfl) dX3_init_1 ?_
  refine lv_aload_n hx hb dX3_init_4 rfl (lv_at hl 0 rfl) ?_
  refine fz_nw X hW (ci := 2) (fs := [.null, .null, .null, .null, .null, .null, .null, .null, .int 0, .null, .null, .int 0, .int 0, .int 0]) inX2 rfl tyX2 tyX2_ok cl_X3_7 ib_X2 ii_X2 (fun j hj => by rcases (show j = 0 ∨ j = 1 ∨ j = 2 ∨ j = 3 ∨ j = 4 ∨ j = 5 ∨ j = 6 ∨ j = 7 ∨ j = 8 ∨ j = 9 ∨ j = 10 ∨ j = 11 ∨ j = 12 ∨ j = 13 by omega) with rfl | rfl | rfl | rfl | rfl | rfl | rfl | rfl | rfl | rfl | rfl | rfl | rfl | rfl <;> rfl) (Nat.le_of_ble_eq_true rfl) (Nat.le_of_ble_eq_true rfl) dX3_init_5 (fun q1 H hW => ?_)
  have hW : fz_W g A s [(h0, .inr (3, [.null, .null])), (q1, .inr (2, [.null, .null, .null, .null, .null, .null, .null, .null, .int 0, .null, .null, .int 0, .int 0, .int 0]))] H _ := hW
  refine lv_dup hx hb dX3_init_8 rfl ?_
  refine fz_cI X hW (wc := [(q1, .inr (2, [.null, .null, .null, .null, .null, .null, .null, .null, .int 0, .null, .null, .int 0, .int 0, .int 0]))]) (wr := [(h0, .inr (3, [.null, .null]))]) [1] [0] (c_X2_init l g q1) lk_X3_9 rfl rfl rfl (by decide) (by decide) ⟨(Nat.le_of_ble_eq_true rfl), (Nat.le_of_ble_eq_true rfl)⟩ hl (Nat.le_of_ble_eq_true rfl) dX3_init_9 ⟨(Nat.le_of_ble_eq_true rfl), (Nat.le_of_ble_eq_true rfl)⟩ (fun W1 H locs hK hW => ?_)
  obtain ⟨a, rfl, rfl⟩ := hK
  have hW : fz_W g A s ((h0, .inr (3, [.null, .null])) :: SW g a SV0) H _ := hW
  refine qf_X3_10 X hin hW 0 rfl (Nat.le_of_ble_eq_true rfl) dX3_init_12 (fun H locs hW => ?_)
  have hW : fz_W g A s ((h0, .inr (3, [.ref (a 0), .null])) :: SW g a SV0) H _ := hW
  refine lv_aload_n hx hb dX3_init_15 rfl (lv_at hl 0 rfl) ?_
  refine fz_nw X hW (ci := 2) (fs := [.null, .null, .null, .null, .null, .null, .null, .null, .int 0, .null, .null, .int 0, .int 0, .int 0]) inX2 rfl tyX2 tyX2_ok cl_X3_7 ib_X2 ii_X2 (fun j hj => by rcases (show j = 0 ∨ j = 1 ∨ j = 2 ∨ j = 3 ∨ j = 4 ∨ j = 5 ∨ j = 6 ∨ j = 7 ∨ j = 8 ∨ j = 9 ∨ j = 10 ∨ j = 11 ∨ j = 12 ∨ j = 13 by omega) with rfl | rfl | rfl | rfl | rfl | rfl | rfl | rfl | rfl | rfl | rfl | rfl | rfl | rfl <;> rfl) (Nat.le_of_ble_eq_true rfl) (Nat.le_of_ble_eq_true rfl) dX3_init_16 (fun q2 H hW => ?_)
  refine lv_dup hx hb dX3_init_19 rfl ?_
  refine fz_cI X hW (wc := [(q2, .inr (2, [.null, .null, .null, .null, .null, .null, .null, .null, .int 0, .null, .null, .int 0, .int 0, .int 0]))]) (wr := ((h0, .inr (3, [.ref (a 0), .null])) :: SW g a SV0)) [18] [0, 1, 2, 3, 4, 5, 6, 7, 8, 9, 10, 11, 12, 13, 14, 15, 16, 17] (c_X2_init l g q2) lk_X3_9 rfl rfl rfl (by decide) (by decide) ⟨(Nat.le_of_ble_eq_true rfl), (Nat.le_of_ble_eq_true rfl)⟩ hl (Nat.le_of_ble_eq_true rfl) dX3_init_20 ⟨(Nat.le_of_ble_eq_true rfl), (Nat.le_of_ble_eq_true rfl)⟩ (fun W1 H locs hK hW => ?_)
  obtain ⟨b, rfl, rfl⟩ := hK
  have hW : fz_W g A s ((h0, .inr (3, [.ref (a 0), .null])) :: (SW g a SV0 ++ SW g b SV0)) H _ := hW
  refine qf_X3_16 X hin hW 0 rfl (Nat.le_of_ble_eq_true rfl) dX3_init_23 (fun H locs hW => ?_)
  exact fz_rvN X hW ⟨a, b, rfl⟩ ⟨(Nat.le_of_ble_eq_true rfl), (Nat.le_of_ble_eq_true rfl)⟩ dX3_init_26
end
section
set_option maxHeartbeats 4000000 in
set_option maxRecDepth 100000 in
theorem k_X3_checkTile (l : Launch) (g : GG) (x y : Int32) (hok : okT x y) (ws : va_W) : fz_C l g yX3_checkTile cX3_checkTile 2 none 6 90 [.int x, .int y] (ws) (ws) none := by
  refine fz_C.of (by decide) (Nat.le_of_ble_eq_true rfl) ?_
  intro p e s m args below meth c A ls X hW hl
  have hx := X.1
  have hb := X.2.1
  have hl : lv_has ls 2 [(0, .int x), (1, .int y)] := hl
  have X : fz_X p s m meth c RX3 cX3_checkTile 2 none g A := X
  have hW : fz_W g A s (ws) s.heap [] := hW
  refine lv_iload_n hx hb dX3_checkTile_0 rfl (lv_at hl 0 rfl) ?_
  refine lv_if_lt (tgt := 20) hx hb dX3_checkTile_1 (by decide) (fun c1 => ?_) (fun c1 => ?_)
  · exact absurd c1 hok.1
  · skip
    refine lv_iload_n hx hb dX3_checkTile_4 rfl (lv_at hl 0 rfl) ?_
    refine lv_bipush (v := 8) hx hb dX3_checkTile_5 (by decide) ?_
    refine lv_icmp_ge (tgt := 20) hx hb dX3_checkTile_7 (by decide) (fun c7 => ?_) (fun c7 => ?_)
    · exact absurd c7 hok.2.1
    · skip
      refine lv_iload_n hx hb dX3_checkTile_10 rfl (lv_at hl 1 rfl) ?_
      refine lv_if_lt (tgt := 20) hx hb dX3_checkTile_11 (by decide) (fun c11 => ?_) (fun c11 => ?_)
      · exact absurd c11 hok.2.2.1
      · skip
        refine lv_iload_n hx hb dX3_checkTile_14 rfl (lv_at hl 1 rfl) ?_
        refine lv_bipush (v := 6) hx hb dX3_checkTile_15 (by decide) ?_
        refine lv_icmp_lt (tgt := 30) hx hb dX3_checkTile_17 (by decide) (fun c17 => ?_) (fun c17 => ?_)
        · skip
          exact fz_rv X (fz_cast (rfl) hW) dX3_checkTile_30
        · exact absurd hok.2.2.2 c17
set_option maxHeartbeats 4000000 in
set_option maxRecDepth 100000 in
theorem k_X3_checkBlock (l : Launch) (g : GG) (x y w h : Int32) (hok : okB x y w h) (ws : va_W) : fz_C l g yX3_checkBlock cX3_checkBlock 4 none 7 111 [.int x, .int y, .int w, .int h] (ws) (ws) none := by
  refine fz_C.of (by decide) (Nat.le_of_ble_eq_true rfl) ?_
  intro p e s m args below meth c A ls X hW hl
  have hx := X.1
  have hb := X.2.1
  have hl : lv_has ls 4 [(0, .int x), (1, .int y), (2, .int w), (3, .int h)] := hl
  have X : fz_X p s m meth c RX3 cX3_checkBlock 4 none g A := X
  have hW : fz_W g A s (ws) s.heap [] := hW
  refine lv_iload_n hx hb dX3_checkBlock_0 rfl (lv_at hl 0 rfl) ?_
  refine lv_iload_n hx hb dX3_checkBlock_1 rfl (lv_at hl 1 rfl) ?_
  refine fz_cSv X hW (k_X3_checkTile l g x y hok.1 _) lk_X3_48 rfl ⟨Nat.le_of_ble_eq_true rfl, Nat.le_of_ble_eq_true rfl⟩ hl rfl (Nat.le_of_ble_eq_true rfl) dX3_checkBlock_2 ⟨Nat.le_refl _, Nat.le_refl _⟩ (fun H locs hW => ?_)
  refine lv_iload_n hx hb dX3_checkBlock_5 rfl (lv_at hl 2 rfl) ?_
  refine lv_iconst (v := 1) hx hb dX3_checkBlock_6 (by decide) ?_
  refine lv_icmp_lt (tgt := 31) hx hb dX3_checkBlock_7 (by decide) (fun c7 => ?_) (fun c7 => ?_)
  · exact absurd c7 hok.2.1
  · skip
    refine lv_iload_n hx hb dX3_checkBlock_10 rfl (lv_at hl 2 rfl) ?_
    refine lv_bipush (v := 8) hx hb dX3_checkBlock_11 (by decide) ?_
    refine lv_iload_n hx hb dX3_checkBlock_13 rfl (lv_at hl 0 rfl) ?_
    refine lv_isub hx hb dX3_checkBlock_14 ?_
    refine lv_icmp_gt (tgt := 31) hx hb dX3_checkBlock_15 (by decide) (fun c15 => ?_) (fun c15 => ?_)
    · exact absurd c15 hok.2.2.1
    · skip
      refine lv_iload_n hx hb dX3_checkBlock_18 rfl (lv_at hl 3 rfl) ?_
      refine lv_iconst (v := 1) hx hb dX3_checkBlock_19 (by decide) ?_
      refine lv_icmp_lt (tgt := 31) hx hb dX3_checkBlock_20 (by decide) (fun c20 => ?_) (fun c20 => ?_)
      · exact absurd c20 hok.2.2.2.1
      · skip
        refine lv_iload_n hx hb dX3_checkBlock_23 rfl (lv_at hl 3 rfl) ?_
        refine lv_bipush (v := 6) hx hb dX3_checkBlock_24 (by decide) ?_
        refine lv_iload_n hx hb dX3_checkBlock_26 rfl (lv_at hl 1 rfl) ?_
        refine lv_isub hx hb dX3_checkBlock_27 ?_
        refine lv_icmp_le (tgt := 41) hx hb dX3_checkBlock_28 (by decide) (fun c28 => ?_) (fun c28 => ?_)
        · skip
          exact fz_rv X (fz_cast (rfl) hW) dX3_checkBlock_41
        · exact absurd hok.2.2.2.2 c28
set_option maxHeartbeats 4000000 in
set_option maxRecDepth 100000 in
theorem k_X3_checkBudget (l : Launch) (g : GG) (b : Int32) (hok : okG b) (ws : va_W) : fz_C l g yX3_checkBudget cX3_checkBudget 1 none 6 90 [.int b] (ws) (ws) none := by
  refine fz_C.of (by decide) (Nat.le_of_ble_eq_true rfl) ?_
  intro p e s m args below meth c A ls X hW hl
  have hx := X.1
  have hb := X.2.1
  have hl : lv_has ls 1 [(0, .int b)] := hl
  have X : fz_X p s m meth c RX3 cX3_checkBudget 1 none g A := X
  have hW : fz_W g A s (ws) s.heap [] := hW
  refine lv_iload_n hx hb dX3_checkBudget_0 rfl (lv_at hl 0 rfl) ?_
  refine lv_if_lt (tgt := 11) hx hb dX3_checkBudget_1 (by decide) (fun c1 => ?_) (fun c1 => ?_)
  · exact absurd c1 hok.1
  · skip
    refine lv_iload_n hx hb dX3_checkBudget_4 rfl (lv_at hl 0 rfl) ?_
    refine lv_sipush (v := 300) hx hb dX3_checkBudget_5 (by decide) ?_
    refine lv_icmp_le (tgt := 21) hx hb dX3_checkBudget_8 (by decide) (fun c8 => ?_) (fun c8 => ?_)
    · skip
      exact fz_rv X (fz_cast (rfl) hW) dX3_checkBudget_21
    · exact absurd hok.2 c8
set_option maxHeartbeats 4000000 in
set_option maxRecDepth 100000 in
theorem k_X3_near (l : Launch) (g : GG) (f : Nat) (a b : Nat → Nat) (v u : SV) (x y : Int32) (hok : okT x y) : fz_C l g yX3_near cX3_near 3 (some .int) 7 111 [.ref f, .int x, .int y] (FW g f a b v u) (FW g f a b v u) (some (.int (v.near (tN x y)))) := by
  refine fz_C.of (by decide) (Nat.le_of_ble_eq_true rfl) ?_
  intro p e s m args below meth c A ls X hW hl
  have hx := X.1
  have hb := X.2.1
  have hl : lv_has ls 3 [(0, .ref f), (1, .int x), (2, .int y)] := hl
  have X : fz_X p s m meth c RX3 cX3_near 3 (some .int) g A := X
  have hW : fz_W g A s (FW g f a b v u) s.heap [] := hW
  obtain ⟨i, j, ex1, ey1, hi8, hj6, etn⟩ := okT_nat hok
  refine lv_iload_n hx hb dX3_near_0 rfl (lv_at hl 1 rfl) ?_
  refine lv_iload_n hx hb dX3_near_1 rfl (lv_at hl 2 rfl) ?_
  refine fz_cSv X hW (k_X3_checkTile l g x y hok _) lk_X3_48 rfl ⟨Nat.le_of_ble_eq_true rfl, Nat.le_of_ble_eq_true rfl⟩ hl rfl (Nat.le_of_ble_eq_true rfl) dX3_near_2 ⟨Nat.le_refl _, Nat.le_refl _⟩ (fun H locs hW => ?_)
  refine lv_aload_n hx hb dX3_near_5 rfl (lv_at hl 0 rfl) ?_
  refine gf_X3_10 X hW 0 rfl rfl dX3_near_6 ?_
  refine gf_X3_70 X hW 1 rfl rfl dX3_near_9 ?_
  refine lv_iload_n hx hb dX3_near_12 rfl (lv_at hl 1 rfl) ?_
  refine lv_iload_n hx hb dX3_near_13 rfl (lv_at hl 2 rfl) ?_
  refine fz_cSi X hW (c_X3_tileAt l g _ _ _) lk_X3_55 rfl ⟨Nat.le_of_ble_eq_true rfl, Nat.le_of_ble_eq_true rfl⟩ hl rfl (Nat.le_of_ble_eq_true rfl) dX3_near_14 ⟨Nat.le_refl _, Nat.le_refl _⟩ (fun H locs hW => ?_)
  refine fz_il X hW 2 (8 * j + i) rfl (by rw [ex1, ey1]; exact fz_tl _ _) (by omega) (by decide) dX3_near_17 ?_
  exact fz_ri X (fz_cast (rfl) hW) (by rw [etn]) dX3_near_18
set_option maxHeartbeats 4000000 in
set_option maxRecDepth 100000 in
theorem k_X3_far (l : Launch) (g : GG) (f : Nat) (a b : Nat → Nat) (v u : SV) (x y : Int32) (hok : okT x y) : fz_C l g yX3_far cX3_far 3 (some .int) 7 111 [.ref f, .int x, .int y] (FW g f a b v u) (FW g f a b v u) (some (.int (v.far (tN x y)))) := by
  refine fz_C.of (by decide) (Nat.le_of_ble_eq_true rfl) ?_
  intro p e s m args below meth c A ls X hW hl
  have hx := X.1
  have hb := X.2.1
  have hl : lv_has ls 3 [(0, .ref f), (1, .int x), (2, .int y)] := hl
  have X : fz_X p s m meth c RX3 cX3_far 3 (some .int) g A := X
  have hW : fz_W g A s (FW g f a b v u) s.heap [] := hW
  obtain ⟨i, j, ex1, ey1, hi8, hj6, etn⟩ := okT_nat hok
  refine lv_iload_n hx hb dX3_far_0 rfl (lv_at hl 1 rfl) ?_
  refine lv_iload_n hx hb dX3_far_1 rfl (lv_at hl 2 rfl) ?_
  refine fz_cSv X hW (k_X3_checkTile l g x y hok _) lk_X3_48 rfl ⟨Nat.le_of_ble_eq_true rfl, Nat.le_of_ble_eq_true rfl⟩ hl rfl (Nat.le_of_ble_eq_true rfl) dX3_far_2 ⟨Nat.le_refl _, Nat.le_refl _⟩ (fun H locs hW => ?_)
  refine lv_aload_n hx hb dX3_far_5 rfl (lv_at hl 0 rfl) ?_
  refine gf_X3_10 X hW 0 rfl rfl dX3_far_6 ?_
  refine gf_X3_74 X hW 1 rfl rfl dX3_far_9 ?_
  refine lv_iload_n hx hb dX3_far_12 rfl (lv_at hl 1 rfl) ?_
  refine lv_iload_n hx hb dX3_far_13 rfl (lv_at hl 2 rfl) ?_
  refine fz_cSi X hW (c_X3_tileAt l g _ _ _) lk_X3_55 rfl ⟨Nat.le_of_ble_eq_true rfl, Nat.le_of_ble_eq_true rfl⟩ hl rfl (Nat.le_of_ble_eq_true rfl) dX3_far_14 ⟨Nat.le_refl _, Nat.le_refl _⟩ (fun H locs hW => ?_)
  refine fz_il X hW 3 (8 * j + i) rfl (by rw [ex1, ey1]; exact fz_tl _ _) (by omega) (by decide) dX3_far_17 ?_
  exact fz_ri X (fz_cast (rfl) hW) (by rw [etn]) dX3_far_18
set_option maxHeartbeats 4000000 in
set_option maxRecDepth 100000 in
theorem k_X3_since (l : Launch) (g : GG) (f : Nat) (a b : Nat → Nat) (v u : SV) (x y : Int32) (hok : okT x y) : fz_C l g yX3_since cX3_since 3 (some .int) 7 111 [.ref f, .int x, .int y] (FW g f a b v u) (FW g f a b v u) (some (.int (v.since (tN x y)))) := by
  refine fz_C.of (by decide) (Nat.le_of_ble_eq_true rfl) ?_
  intro p e s m args below meth c A ls X hW hl
  have hx := X.1
  have hb := X.2.1
  have hl : lv_has ls 3 [(0, .ref f), (1, .int x), (2, .int y)] := hl
  have X : fz_X p s m meth c RX3 cX3_since 3 (some .int) g A := X
  have hW : fz_W g A s (FW g f a b v u) s.heap [] := hW
  obtain ⟨i, j, ex1, ey1, hi8, hj6, etn⟩ := okT_nat hok
  refine lv_iload_n hx hb dX3_since_0 rfl (lv_at hl 1 rfl) ?_
  refine lv_iload_n hx hb dX3_since_1 rfl (lv_at hl 2 rfl) ?_
  refine fz_cSv X hW (k_X3_checkTile l g x y hok _) lk_X3_48 rfl ⟨Nat.le_of_ble_eq_true rfl, Nat.le_of_ble_eq_true rfl⟩ hl rfl (Nat.le_of_ble_eq_true rfl) dX3_since_2 ⟨Nat.le_refl _, Nat.le_refl _⟩ (fun H locs hW => ?_)
  refine lv_aload_n hx hb dX3_since_5 rfl (lv_at hl 0 rfl) ?_
  refine gf_X3_10 X hW 0 rfl rfl dX3_since_6 ?_
  refine gf_X3_80 X hW 1 rfl rfl dX3_since_9 ?_
  refine lv_iload_n hx hb dX3_since_12 rfl (lv_at hl 1 rfl) ?_
  refine lv_iload_n hx hb dX3_since_13 rfl (lv_at hl 2 rfl) ?_
  refine fz_cSi X hW (c_X3_tileAt l g _ _ _) lk_X3_55 rfl ⟨Nat.le_of_ble_eq_true rfl, Nat.le_of_ble_eq_true rfl⟩ hl rfl (Nat.le_of_ble_eq_true rfl) dX3_since_14 ⟨Nat.le_refl _, Nat.le_refl _⟩ (fun H locs hW => ?_)
  refine fz_il X hW 4 (8 * j + i) rfl (by rw [ex1, ey1]; exact fz_tl _ _) (by omega) (by decide) dX3_since_17 ?_
  exact fz_ri X (fz_cast (rfl) hW) (by rw [etn]) dX3_since_18
set_option maxHeartbeats 4000000 in
set_option maxRecDepth 100000 in
theorem k_X3_kind (l : Launch) (g : GG) (f : Nat) (a b : Nat → Nat) (v u : SV) (x y : Int32) (hok : okT x y) : fz_C l g yX3_kind cX3_kind 3 (some .int) 7 111 [.ref f, .int x, .int y] (FW g f a b v u) (FW g f a b v u) (some (.int (kdI v (tN x y)))) := by
  refine fz_C.of (by decide) (Nat.le_of_ble_eq_true rfl) ?_
  intro p e s m args below meth c A ls X hW hl
  have hx := X.1
  have hb := X.2.1
  have hl : lv_has ls 3 [(0, .ref f), (1, .int x), (2, .int y)] := hl
  have X : fz_X p s m meth c RX3 cX3_kind 3 (some .int) g A := X
  have hW : fz_W g A s (FW g f a b v u) s.heap [] := hW
  obtain ⟨i, j, ex1, ey1, hi8, hj6, etn⟩ := okT_nat hok
  refine lv_iload_n hx hb dX3_kind_0 rfl (lv_at hl 1 rfl) ?_
  refine lv_iload_n hx hb dX3_kind_1 rfl (lv_at hl 2 rfl) ?_
  refine fz_cSv X hW (k_X3_checkTile l g x y hok _) lk_X3_48 rfl ⟨Nat.le_of_ble_eq_true rfl, Nat.le_of_ble_eq_true rfl⟩ hl rfl (Nat.le_of_ble_eq_true rfl) dX3_kind_2 ⟨Nat.le_refl _, Nat.le_refl _⟩ (fun H locs hW => ?_)
  refine lv_aload_n hx hb dX3_kind_5 rfl (lv_at hl 0 rfl) ?_
  refine gf_X3_10 X hW 0 rfl rfl dX3_kind_6 ?_
  refine lv_iload_n hx hb dX3_kind_9 rfl (lv_at hl 1 rfl) ?_
  refine lv_iload_n hx hb dX3_kind_10 rfl (lv_at hl 2 rfl) ?_
  refine fz_cSi X hW (c_X3_tileAt l g _ _ _) lk_X3_55 rfl ⟨Nat.le_of_ble_eq_true rfl, Nat.le_of_ble_eq_true rfl⟩ hl rfl (Nat.le_of_ble_eq_true rfl) dX3_kind_11 ⟨Nat.le_refl _, Nat.le_refl _⟩ (fun H locs hW => ?_)
  refine fz_top (x' := nI (8 * j + i)) (by rw [ex1, ey1]; exact fz_tl _ _) ?_
  refine fz_cVi X hW (cf_kindOf l g f a b v u (8 * j + i) (by omega)) lk_X3_77 (ci := 2) (q0 := 1) rfl rfl rfl rfl ⟨Nat.le_of_ble_eq_true rfl, Nat.le_of_ble_eq_true rfl⟩ hl rfl (Nat.le_of_ble_eq_true rfl) dX3_kind_14 ⟨Nat.le_refl _, Nat.le_refl _⟩ (fun H locs hW => ?_)
  exact fz_ri X (fz_cast (rfl) hW) (by rw [etn]) dX3_kind_17
set_option maxHeartbeats 4000000 in
set_option maxRecDepth 100000 in
theorem k_X3_look (l : Launch) (g : GG) (f : Nat) (a b : Nat → Nat) (v u : SV) (x y : Int32) (hok : okT x y) : fz_C l g yX3_look cX3_look 4 (some .int) 7 111 [.ref f, .int x, .int y] (FW g f a b v u) (FW g f a b (v.laS (tN x y)) u) (some (.int (nI v.la))) := by
  refine fz_C.of (by decide) (Nat.le_of_ble_eq_true rfl) ?_
  intro p e s m args below meth c A ls X hW hl
  have hx := X.1
  have hb := X.2.1
  have hl : lv_has ls 4 [(0, .ref f), (1, .int x), (2, .int y)] := hl
  have X : fz_X p s m meth c RX3 cX3_look 4 (some .int) g A := X
  have hW : fz_W g A s (FW g f a b v u) s.heap [] := hW
  obtain ⟨i, j, ex1, ey1, hi8, hj6, etn⟩ := okT_nat hok
  refine lv_iload_n hx hb dX3_look_0 rfl (lv_at hl 1 rfl) ?_
  refine lv_iload_n hx hb dX3_look_1 rfl (lv_at hl 2 rfl) ?_
  refine fz_cSv X hW (k_X3_checkTile l g x y hok _) lk_X3_48 rfl ⟨Nat.le_of_ble_eq_true rfl, Nat.le_of_ble_eq_true rfl⟩ hl rfl (Nat.le_of_ble_eq_true rfl) dX3_look_2 ⟨Nat.le_refl _, Nat.le_refl _⟩ (fun H locs hW => ?_)
  refine lv_aload_n hx hb dX3_look_5 rfl (lv_at hl 0 rfl) ?_
  refine gf_X3_10 X hW 0 rfl rfl dX3_look_6 ?_
  refine gf_X3_52 X hW 1 rfl rfl dX3_look_9 ?_
  refine lv_istore_n (lv' := [(3, .int (nI v.la)), (0, .ref f), (1, .int x), (2, .int y)]) hx hb dX3_look_12 rfl hl (by decide) rfl (fun ls hl => ?_)
  refine lv_aload_n hx hb dX3_look_13 rfl (lv_at hl 1 rfl) ?_
  refine gf_X3_10 X hW 0 rfl rfl dX3_look_14 ?_
  refine lv_iload_n hx hb dX3_look_17 rfl (lv_at hl 2 rfl) ?_
  refine lv_iload_n hx hb dX3_look_18 rfl (lv_at hl 3 rfl) ?_
  refine fz_cSi X hW (c_X3_tileAt l g _ _ _) lk_X3_55 rfl ⟨Nat.le_of_ble_eq_true rfl, Nat.le_of_ble_eq_true rfl⟩ hl rfl (Nat.le_of_ble_eq_true rfl) dX3_look_19 ⟨Nat.le_refl _, Nat.le_refl _⟩ (fun H locs hW => ?_)
  refine fz_top (x' := nI (tN x y)) (by rw [etn, ex1, ey1]; exact fz_tl _ _) ?_
  refine pf_X3_52 X hW 1 rfl (Nat.le_of_ble_eq_true rfl) dX3_look_22 (fun H locs hW => ?_)
  refine lv_iload_n hx hb dX3_look_25 rfl (lv_at hl 0 rfl) ?_
  exact fz_ri X (fz_cast (rfl) hW) (rfl) dX3_look_26
set_option maxHeartbeats 4000000 in
set_option maxRecDepth 100000 in
theorem k_X3_step (l : Launch) (g : GG) (f : Nat) (a b : Nat → Nat) (v u : SV) (x : Int32) (hok : okG x) (hwm : v.wm ≤ 4) (hkc : v.kc ≤ 8) (hm : ∀ j, j < v.wm → MOK (v.mv j)) : fz_C l g yX3_step cX3_step 2 (some .int) 7 145 [.ref f, .int x] (FW g f a b v u) (FW g f a b (psV v x) u) (some (.int (psA v x).1)) := by
  refine fz_C.of (by decide) (Nat.le_of_ble_eq_true rfl) ?_
  intro p e s m args below meth c A ls X hW hl
  have hx := X.1
  have hb := X.2.1
  have hl : lv_has ls 2 [(0, .ref f), (1, .int x)] := hl
  have X : fz_X p s m meth c RX3 cX3_step 2 (some .int) g A := X
  have hW : fz_W g A s (FW g f a b v u) s.heap [] := hW
  refine lv_iload_n hx hb dX3_step_0 rfl (lv_at hl 1 rfl) ?_
  refine fz_cSv X hW (k_X3_checkBudget l g x hok _) lk_X3_59 rfl ⟨Nat.le_of_ble_eq_true rfl, Nat.le_of_ble_eq_true rfl⟩ hl rfl (Nat.le_of_ble_eq_true rfl) dX3_step_1 ⟨Nat.le_refl _, Nat.le_refl _⟩ (fun H locs hW => ?_)
  refine lv_aload_n hx hb dX3_step_4 rfl (lv_at hl 0 rfl) ?_
  refine gf_X3_10 X hW 0 rfl rfl dX3_step_5 ?_
  refine lv_iload_n hx hb dX3_step_8 rfl (lv_at hl 1 rfl) ?_
  refine fz_cVi X hW (cf_passStep l g f a b v u x hwm hkc hm) lk_X3_63 (ci := 2) (q0 := 1) rfl rfl rfl rfl ⟨Nat.le_of_ble_eq_true rfl, Nat.le_of_ble_eq_true rfl⟩ hl rfl (Nat.le_of_ble_eq_true rfl) dX3_step_9 ⟨Nat.le_refl _, Nat.le_refl _⟩ (fun H locs hW => ?_)
  exact fz_ri X (fz_cast (rfl) hW) (rfl) dX3_step_12
set_option maxHeartbeats 4000000 in
set_option maxRecDepth 100000 in
theorem k_X3_known (l : Launch) (g : GG) (f : Nat) (a b : Nat → Nat) (v u : SV) (x : Int32) (hkc : v.kc ≤ 8) (h0 : ¬ x < 0) (hx8 : x < nI v.kc) : fz_C l g yX3_known cX3_known 2 (some .int) 6 90 [.ref f, .int x] (FW g f a b v u) (FW g f a b v u) (some (.int (v.kp x.toNatClampNeg))) := by
  refine fz_C.of (by decide) (Nat.le_of_ble_eq_true rfl) ?_
  intro p e s m args below meth c A ls X hW hl
  have hx := X.1
  have hb := X.2.1
  have hl : lv_has ls 2 [(0, .ref f), (1, .int x)] := hl
  have X : fz_X p s m meth c RX3 cX3_known 2 (some .int) g A := X
  have hW : fz_W g A s (FW g f a b v u) s.heap [] := hW
  refine lv_iload_n hx hb dX3_known_0 rfl (lv_at hl 1 rfl) ?_
  refine lv_if_lt (tgt := 18) hx hb dX3_known_1 (by decide) (fun c1 => ?_) (fun c1 => ?_)
  · exact absurd c1 h0
  · skip
    refine lv_iload_n hx hb dX3_known_4 rfl (lv_at hl 1 rfl) ?_
    refine lv_aload_n hx hb dX3_known_5 rfl (lv_at hl 0 rfl) ?_
    refine gf_X3_10 X hW 0 rfl rfl dX3_known_6 ?_
    refine gf_X3_90 X hW 1 rfl rfl dX3_known_9 ?_
    refine gf_X3_94 X hW 10 rfl rfl dX3_known_12 ?_
    refine lv_icmp_lt (tgt := 28) hx hb dX3_known_15 (by decide) (fun c15 => ?_) (fun c15 => ?_)
    · skip
      obtain ⟨i, hi, ei⟩ := nI_of c1
      have hi8 : i < v.kc := (nI_ltI (a := i) (b := v.kc) hi (by omega)).mp (by rw [← ei]; exact c15)
      refine lv_aload_n hx hb dX3_known_28 rfl (lv_at hl 0 rfl) ?_
      refine gf_X3_10 X hW 0 rfl rfl dX3_known_29 ?_
      refine gf_X3_90 X hW 1 rfl rfl dX3_known_32 ?_
      refine gf_X3_104 X hW 10 rfl rfl dX3_known_35 ?_
      refine lv_iload_n hx hb dX3_known_38 rfl (lv_at hl 1 rfl) ?_
      refine fz_il X hW 11 (i) rfl ei (by omega) (by decide) dX3_known_39 ?_
      exact fz_ri X (fz_cast (rfl) hW) (by rw [ei, nI_clamp hi]) dX3_known_40
    · exact absurd hx8 c15
set_option maxHeartbeats 4000000 in
set_option maxRecDepth 100000 in
theorem k_X3_sent (l : Launch) (g : GG) (f : Nat) (a b : Nat → Nat) (v u : SV) (x : Int32) (h0 : ¬ x < 0) (h4 : x < 4) : fz_C l g yX3_sent cX3_sent 2 (some .int) 6 90 [.ref f, .int x] (FW g f a b v u) (FW g f a b v u) (some (.int (v.sc x.toNatClampNeg))) := by
  refine fz_C.of (by decide) (Nat.le_of_ble_eq_true rfl) ?_
  intro p e s m args below meth c A ls X hW hl
  have hx := X.1
  have hb := X.2.1
  have hl : lv_has ls 2 [(0, .ref f), (1, .int x)] := hl
  have X : fz_X p s m meth c RX3 cX3_sent 2 (some .int) g A := X
  have hW : fz_W g A s (FW g f a b v u) s.heap [] := hW
  refine lv_iload_n hx hb dX3_sent_0 rfl (lv_at hl 1 rfl) ?_
  refine lv_if_lt (tgt := 9) hx hb dX3_sent_1 (by decide) (fun c1 => ?_) (fun c1 => ?_)
  · exact absurd c1 h0
  · skip
    refine lv_iload_n hx hb dX3_sent_4 rfl (lv_at hl 1 rfl) ?_
    refine lv_iconst (v := 4) hx hb dX3_sent_5 (by decide) ?_
    refine lv_icmp_lt (tgt := 19) hx hb dX3_sent_6 (by decide) (fun c6 => ?_) (fun c6 => ?_)
    · skip
      obtain ⟨i, hi, ei⟩ := nI_of c1
      have hi8 : i < 4 := (nI_ltI (a := i) (b := 4) hi (by omega)).mp (by rw [← ei]; exact c6)
      refine lv_aload_n hx hb dX3_sent_19 rfl (lv_at hl 0 rfl) ?_
      refine gf_X3_10 X hW 0 rfl rfl dX3_sent_20 ?_
      refine gf_X3_109 X hW 1 rfl rfl dX3_sent_23 ?_
      refine lv_iload_n hx hb dX3_sent_26 rfl (lv_at hl 1 rfl) ?_
      refine fz_il X hW 12 (i) rfl ei (by omega) (by decide) dX3_sent_27 ?_
      exact fz_ri X (fz_cast (rfl) hW) (by rw [ei, nI_clamp hi]) dX3_sent_28
    · exact absurd h4 c6
end
section
set_option maxHeartbeats 4000000 in
set_option maxRecDepth 100000 in
theorem k_X3_fill (l : Launch) (g : GG) (f : Nat) (a b : Nat → Nat) (v u : SV) (x y w h q : Int32) (kb : okB x y w h) (kq : okP q) : fz_C l g yX3_fill cX3_fill 6 (some .int) 8 134 [.ref f, .int x, .int y, .int w, .int h, .int q] (FW g f a b v u) (FW g f a b (paV v x.toNatClampNeg y.toNatClampNeg w.toNatClampNeg h.toNatClampNeg q) u) (some (.int (bcL (usF (paV v x.toNatClampNeg y.toNatClampNeg w.toNatClampNeg h.toNatClampNeg q) 48)))) := by
  refine fz_C.of (by decide) (Nat.le_of_ble_eq_true rfl) ?_
  intro p e s m args below meth c A ls X hW hl
  have hx := X.1
  have hb := X.2.1
  have hl : lv_has ls 6 [(0, .ref f), (1, .int x), (2, .int y), (3, .int w), (4, .int h), (5, .int q)] := hl
  have X : fz_X p s m meth c RX3 cX3_fill 6 (some .int) g A := X
  have hW : fz_W g A s (FW g f a b v u) s.heap [] := hW
  obtain ⟨i, j, wd, hg, e1, e2, e3, e4, -, -, b1, b2, n1, n2, n3, n4⟩ := okB_nat kb
  refine lv_iload_n hx hb dX3_fill_0 rfl (lv_at hl 1 rfl) ?_
  refine lv_iload_n hx hb dX3_fill_1 rfl (lv_at hl 2 rfl) ?_
  refine lv_iload_n hx hb dX3_fill_2 rfl (lv_at hl 3 rfl) ?_
  refine lv_iload hx hb dX3_fill_3 (lv_at hl 4 rfl) ?_
  refine fz_cSv X hW (k_X3_checkBlock l g x y w h kb _) lk_X3_19 rfl ⟨Nat.le_of_ble_eq_true rfl, Nat.le_of_ble_eq_true rfl⟩ hl rfl (Nat.le_of_ble_eq_true rfl) dX3_fill_5 ⟨Nat.le_refl _, Nat.le_refl _⟩ (fun H locs hW => ?_)
  refine lv_iload hx hb dX3_fill_8 (lv_at hl 5 rfl) ?_
  refine lv_if_lt (tgt := 21) hx hb dX3_fill_10 (by decide) (fun c10 => ?_) (fun c10 => ?_)
  · exact absurd c10 kq.1
  · skip
    refine lv_iload hx hb dX3_fill_13 (lv_at hl 5 rfl) ?_
    refine lv_sipush (v := 255) hx hb dX3_fill_15 (by decide) ?_
    refine lv_icmp_le (tgt := 31) hx hb dX3_fill_18 (by decide) (fun c18 => ?_) (fun c18 => ?_)
    · skip
      subst e1; subst e2; subst e3; subst e4
      refine lv_aload_n hx hb dX3_fill_31 rfl (lv_at hl 0 rfl) ?_
      refine gf_X3_10 X hW 0 rfl rfl dX3_fill_32 ?_
      refine lv_iload_n hx hb dX3_fill_35 rfl (lv_at hl 1 rfl) ?_
      refine lv_iload_n hx hb dX3_fill_36 rfl (lv_at hl 2 rfl) ?_
      refine lv_iload_n hx hb dX3_fill_37 rfl (lv_at hl 3 rfl) ?_
      refine lv_iload hx hb dX3_fill_38 (lv_at hl 4 rfl) ?_
      refine lv_iload hx hb dX3_fill_40 (lv_at hl 5 rfl) ?_
      refine fz_cVv X hW (cf_paint l g f a b v u i j wd hg q b1 b2) lk_X3_30 (ci := 2) (q0 := 1) rfl rfl rfl rfl ⟨Nat.le_of_ble_eq_true rfl, Nat.le_of_ble_eq_true rfl⟩ hl rfl (Nat.le_of_ble_eq_true rfl) dX3_fill_42 ⟨Nat.le_refl _, Nat.le_refl _⟩ (fun H locs hW => ?_)
      refine lv_aload_n hx hb dX3_fill_45 rfl (lv_at hl 0 rfl) ?_
      refine gf_X3_10 X hW 0 rfl rfl dX3_fill_46 ?_
      refine fz_cVi X hW (cf_countUnlike l g f a b (paV v i j wd hg q) u) lk_X3_34 (ci := 2) (q0 := 1) rfl rfl rfl rfl ⟨Nat.le_of_ble_eq_true rfl, Nat.le_of_ble_eq_true rfl⟩ hl rfl (Nat.le_of_ble_eq_true rfl) dX3_fill_49 ⟨Nat.le_refl _, Nat.le_refl _⟩ (fun H locs hW => ?_)
      exact fz_ri X (fz_cast (by rw [n1, n2, n3, n4]) hW) (by rw [n1, n2, n3, n4]) dX3_fill_52
    · exact absurd kq.2 c18
set_option maxHeartbeats 4000000 in
set_option maxRecDepth 100000 in
theorem k_X3_move (l : Launch) (g : GG) (f : Nat) (a b : Nat → Nat) (v u : SV) (x y w h x2 y2 : Int32) (kb : okB x y w h) (kb2 : okB x2 y2 w h) (kne : ¬ (x = x2 ∧ y = y2)) (hwm : v.wm ≤ 4) : fz_C l g yX3_move cX3_move 7 (some .int) 8 134 [.ref f, .int x, .int y, .int w, .int h, .int x2, .int y2] (FW g f a b v u) (FW g f a b (shV v (mkM x.toNatClampNeg y.toNatClampNeg w.toNatClampNeg h.toNatClampNeg x2.toNatClampNeg y2.toNatClampNeg)) u) (some (.int (nI (shV v (mkM x.toNatClampNeg y.toNatClampNeg w.toNatClampNeg h.toNatClampNeg x2.toNatClampNeg y2.toNatClampNeg)).wm))) := by
  refine fz_C.of (by decide) (Nat.le_of_ble_eq_true rfl) ?_
  intro p e s m args below meth c A ls X hW hl
  have hx := X.1
  have hb := X.2.1
  have hl : lv_has ls 7 [(0, .ref f), (1, .int x), (2, .int y), (3, .int w), (4, .int h), (5, .int x2), (6, .int y2)] := hl
  have X : fz_X p s m meth c RX3 cX3_move 7 (some .int) g A := X
  have hW : fz_W g A s (FW g f a b v u) s.heap [] := hW
  obtain ⟨i, j, wd, hg, e1, e2, e3, e4, -, -, b1, b2, n1, n2, n3, n4⟩ := okB_nat kb
  obtain ⟨i2, j2, wd2, hg2, e5, e6, -, -, -, -, b3, b4, n5, n6, n7, n8⟩ := okB_nat kb2
  have ew : wd2 = wd := n7.symm.trans n3
  have eh : hg2 = hg := n8.symm.trans n4
  rw [ew] at b3
  rw [eh] at b4
  refine lv_iload_n hx hb dX3_move_0 rfl (lv_at hl 1 rfl) ?_
  refine lv_iload_n hx hb dX3_move_1 rfl (lv_at hl 2 rfl) ?_
  refine lv_iload_n hx hb dX3_move_2 rfl (lv_at hl 3 rfl) ?_
  refine lv_iload hx hb dX3_move_3 (lv_at hl 4 rfl) ?_
  refine fz_cSv X hW (k_X3_checkBlock l g x y w h kb _) lk_X3_19 rfl ⟨Nat.le_of_ble_eq_true rfl, Nat.le_of_ble_eq_true rfl⟩ hl rfl (Nat.le_of_ble_eq_true rfl) dX3_move_5 ⟨Nat.le_refl _, Nat.le_refl _⟩ (fun H locs hW => ?_)
  refine lv_iload hx hb dX3_move_8 (lv_at hl 5 rfl) ?_
  refine lv_iload hx hb dX3_move_10 (lv_at hl 6 rfl) ?_
  refine lv_iload_n hx hb dX3_move_12 rfl (lv_at hl 3 rfl) ?_
  refine lv_iload hx hb dX3_move_13 (lv_at hl 4 rfl) ?_
  refine fz_cSv X hW (k_X3_checkBlock l g x2 y2 w h kb2 _) lk_X3_19 rfl ⟨Nat.le_of_ble_eq_true rfl, Nat.le_of_ble_eq_true rfl⟩ hl rfl (Nat.le_of_ble_eq_true rfl) dX3_move_15 ⟨Nat.le_refl _, Nat.le_refl _⟩ (fun H locs hW => ?_)
  refine lv_iload_n hx hb dX3_move_18 rfl (lv_at hl 1 rfl) ?_
  refine lv_iload hx hb dX3_move_19 (lv_at hl 5 rfl) ?_
  refine lv_icmp_ne (tgt := 40) hx hb dX3_move_21 (by decide) (fun c21 => ?_) (fun c21 => ?_)
  · skip
    subst e1; subst e2; subst e3; subst e4; subst e5; subst e6
    refine lv_aload_n hx hb dX3_move_40 rfl (lv_at hl 0 rfl) ?_
    refine gf_X3_10 X hW 0 rfl rfl dX3_move_41 ?_
    refine lv_iload_n hx hb dX3_move_44 rfl (lv_at hl 1 rfl) ?_
    refine lv_iload_n hx hb dX3_move_45 rfl (lv_at hl 2 rfl) ?_
    refine lv_iload_n hx hb dX3_move_46 rfl (lv_at hl 3 rfl) ?_
    refine lv_iload hx hb dX3_move_47 (lv_at hl 4 rfl) ?_
    refine lv_iload hx hb dX3_move_49 (lv_at hl 5 rfl) ?_
    refine lv_iload hx hb dX3_move_51 (lv_at hl 6 rfl) ?_
    refine fz_cVv X hW (cf_shift l g f a b v u (mkM i j wd hg i2 j2) ⟨b1, b2, b3, b4⟩ hwm) lk_X3_40 (ci := 2) (q0 := 1) rfl rfl rfl rfl ⟨Nat.le_of_ble_eq_true rfl, Nat.le_of_ble_eq_true rfl⟩ hl rfl (Nat.le_of_ble_eq_true rfl) dX3_move_53 ⟨Nat.le_refl _, Nat.le_refl _⟩ (fun H locs hW => ?_)
    refine lv_aload_n hx hb dX3_move_56 rfl (lv_at hl 0 rfl) ?_
    refine gf_X3_10 X hW 0 rfl rfl dX3_move_57 ?_
    refine gf_X3_44 X hW 1 rfl rfl dX3_move_60 ?_
    exact fz_ri X (fz_cast (by rw [n1, n2, n3, n4, n5, n6]) hW) (by rw [n1, n2, n3, n4, n5, n6]) dX3_move_63
  · skip
    refine lv_iload_n hx hb dX3_move_24 rfl (lv_at hl 2 rfl) ?_
    refine lv_iload hx hb dX3_move_25 (lv_at hl 6 rfl) ?_
    refine lv_icmp_ne (tgt := 40) hx hb dX3_move_27 (by decide) (fun c27 => ?_) (fun c27 => ?_)
    · skip
      subst e1; subst e2; subst e3; subst e4; subst e5; subst e6
      refine lv_aload_n hx hb dX3_move_40 rfl (lv_at hl 0 rfl) ?_
      refine gf_X3_10 X hW 0 rfl rfl dX3_move_41 ?_
      refine lv_iload_n hx hb dX3_move_44 rfl (lv_at hl 1 rfl) ?_
      refine lv_iload_n hx hb dX3_move_45 rfl (lv_at hl 2 rfl) ?_
      refine lv_iload_n hx hb dX3_move_46 rfl (lv_at hl 3 rfl) ?_
      refine lv_iload hx hb dX3_move_47 (lv_at hl 4 rfl) ?_
      refine lv_iload hx hb dX3_move_49 (lv_at hl 5 rfl) ?_
      refine lv_iload hx hb dX3_move_51 (lv_at hl 6 rfl) ?_
      refine fz_cVv X hW (cf_shift l g f a b v u (mkM i j wd hg i2 j2) ⟨b1, b2, b3, b4⟩ hwm) lk_X3_40 (ci := 2) (q0 := 1) rfl rfl rfl rfl ⟨Nat.le_of_ble_eq_true rfl, Nat.le_of_ble_eq_true rfl⟩ hl rfl (Nat.le_of_ble_eq_true rfl) dX3_move_53 ⟨Nat.le_refl _, Nat.le_refl _⟩ (fun H locs hW => ?_)
      refine lv_aload_n hx hb dX3_move_56 rfl (lv_at hl 0 rfl) ?_
      refine gf_X3_10 X hW 0 rfl rfl dX3_move_57 ?_
      refine gf_X3_44 X hW 1 rfl rfl dX3_move_60 ?_
      exact fz_ri X (fz_cast (by rw [n1, n2, n3, n4, n5, n6]) hW) (by rw [n1, n2, n3, n4, n5, n6]) dX3_move_63
    · exact absurd ⟨c21, c27⟩ kne
set_option maxHeartbeats 4000000 in
set_option maxRecDepth 100000 in
theorem k_X3_stepsToGo (l : Launch) (g : GG) (f : Nat) (a b : Nat → Nat) (v u : SV) (x : Int32) (hok : SOK v) (kg : okG x) : fz_C l g yX3_stepsToGo cX3_stepsToGo 5 (some .int) 7 145 [.ref f, .int x] (FW g f a b v u) (FW g f a b v (stgF x (coV u v) 0 100).2) (some (.int (stgF x (coV u v) 0 100).1)) := by
  refine fz_C.of (by decide) (Nat.le_of_ble_eq_true rfl) ?_
  intro p e s m args below meth c A ls X hW hl
  have hx := X.1
  have hb := X.2.1
  have hl : lv_has ls 5 [(0, .ref f), (1, .int x)] := hl
  have X : fz_X p s m meth c RX3 cX3_stepsToGo 5 (some .int) g A := X
  have hW : fz_W g A s (FW g f a b v u) s.heap [] := hW
  refine lv_iload_n hx hb dX3_stepsToGo_0 rfl (lv_at hl 1 rfl) ?_
  refine fz_cSv X hW (k_X3_checkBudget l g x kg _) lk_X3_59 rfl ⟨Nat.le_of_ble_eq_true rfl, Nat.le_of_ble_eq_true rfl⟩ hl rfl (Nat.le_of_ble_eq_true rfl) dX3_stepsToGo_1 ⟨Nat.le_refl _, Nat.le_refl _⟩ (fun H locs hW => ?_)
  refine lv_aload_n hx hb dX3_stepsToGo_4 rfl (lv_at hl 0 rfl) ?_
  refine gf_X3_16 X hW 0 rfl rfl dX3_stepsToGo_5 ?_
  refine lv_aload_n hx hb dX3_stepsToGo_8 rfl (lv_at hl 0 rfl) ?_
  refine gf_X3_10 X hW 0 rfl rfl dX3_stepsToGo_9 ?_
  refine fz_cVv X hW (cf_copyFrom l g f a b v u hok.1) lk_X3_118 (ci := 2) (q0 := 18) rfl rfl rfl rfl ⟨Nat.le_of_ble_eq_true rfl, Nat.le_of_ble_eq_true rfl⟩ hl rfl (Nat.le_of_ble_eq_true rfl) dX3_stepsToGo_12 ⟨Nat.le_refl _, Nat.le_refl _⟩ (fun H locs hW => ?_)
  refine lv_iconst (v := 0) hx hb dX3_stepsToGo_15 (by decide) ?_
  refine lv_istore_n (lv' := [(2, .int 0), (0, .ref f), (1, .int x)]) hx hb dX3_stepsToGo_16 rfl hl (by decide) rfl (fun ls hl => ?_)
  have loop17 : ∀ (k : Nat) (n : Nat) (w : SV), n ≤ 100 → 100 < n + k → stgF x (coV u v) 0 100 = stgF x w n (100 - n) → SOK w → ∀ (H : Heap) (locs : List Loc) (ls : Array Slot), fz_W g A s (FW g f a b v w) H locs → lv_has ls 5 [(0, .ref f), (1, .int x), (2, .int (nI n))] → W p l e (fz_R 7 0 0 145) s m args below meth c H locs 0 0 (MQ below (fz_Q g (FW g f a b v (stgF x (coV u v) 0 100).2) (some (.int (stgF x (coV u v) 0 100).1)) A) args s 0 0 A) (F0 m 17 ls []) := by
    intro k
    induction k with
    | zero =>
      intro n w hn hk
      omega
    | succ k ih17 =>
      intro n w hn hk he hk2 H locs ls hW hl
      refine lv_iload_n hx hb dX3_stepsToGo_17 rfl (lv_at hl 2 rfl) ?_
      refine lv_bipush (v := 100) hx hb dX3_stepsToGo_18 (by decide) ?_
      refine lv_icmp_ge (tgt := 68) hx hb dX3_stepsToGo_20 (by decide) (fun c20 => ?_) (fun c20 => ?_)
      · skip
        have h20 : 100 ≤ n := (nI_leI (a := 100) (b := n) (by omega) (by omega)).mp c20
        have hs : stgF x (coV u v) 0 100 = (if alI w = 0 then -1 else nI n, w) := by rw [he, show 100 - n = 0 by omega]; rfl
        refine lv_aload_n hx hb dX3_stepsToGo_68 rfl (lv_at hl 0 rfl) ?_
        refine gf_X3_16 X hW 0 rfl rfl dX3_stepsToGo_69 ?_
        refine fz_cVi X hW (cf_isAllSentB l g f a b v w hk2.1) lk_X3_122 (ci := 2) (q0 := 18) rfl rfl rfl rfl ⟨Nat.le_of_ble_eq_true rfl, Nat.le_of_ble_eq_true rfl⟩ hl rfl (Nat.le_of_ble_eq_true rfl) dX3_stepsToGo_72 ⟨Nat.le_refl _, Nat.le_refl _⟩ (fun H locs hW => ?_)
        refine lv_if_eq (tgt := 82) hx hb dX3_stepsToGo_75 (by decide) (fun c75 => ?_) (fun c75 => ?_)
        · skip
          refine lv_iconst (v := (-1)) hx hb dX3_stepsToGo_82 (by decide) ?_
          exact fz_ri X (fz_cast (by rw [hs]) hW) (by rw [hs]; exact (if_pos c75).symm) dX3_stepsToGo_83
        · skip
          refine lv_iload_n hx hb dX3_stepsToGo_78 rfl (lv_at hl 2 rfl) ?_
          refine lv_goto (tgt := 83) hx hb dX3_stepsToGo_79 (by decide) ?_
          exact fz_ri X (fz_cast (by rw [hs]) hW) (by rw [hs]; exact (if_neg c75).symm) dX3_stepsToGo_83
      · skip
        have h20 : n < 100 := Nat.not_le.mp (fun z => c20 ((nI_leI (a := 100) (b := n) (by omega) (by omega)).mpr z))
        refine lv_aload_n hx hb dX3_stepsToGo_23 rfl (lv_at hl 0 rfl) ?_
        refine gf_X3_16 X hW 0 rfl rfl dX3_stepsToGo_24 ?_
        refine fz_cVi X hW (cf_isAllSentB l g f a b v w hk2.1) lk_X3_122 (ci := 2) (q0 := 18) rfl rfl rfl rfl ⟨Nat.le_of_ble_eq_true rfl, Nat.le_of_ble_eq_true rfl⟩ hl rfl (Nat.le_of_ble_eq_true rfl) dX3_stepsToGo_27 ⟨Nat.le_refl _, Nat.le_refl _⟩ (fun H locs hW => ?_)
        refine lv_if_ne (tgt := 68) hx hb dX3_stepsToGo_30 (by decide) (fun c30 => ?_) (fun c30 => ?_)
        · skip
          have c30 : ¬ alI w = 0 := c30
          have hs : stgF x (coV u v) 0 100 = (nI n, w) := by rw [he, show 100 - n = (100 - (n + 1)) + 1 by omega]; exact if_neg c30
          refine lv_aload_n hx hb dX3_stepsToGo_68 rfl (lv_at hl 0 rfl) ?_
          refine gf_X3_16 X hW 0 rfl rfl dX3_stepsToGo_69 ?_
          refine fz_cVi X hW (cf_isAllSentB l g f a b v w hk2.1) lk_X3_122 (ci := 2) (q0 := 18) rfl rfl rfl rfl ⟨Nat.le_of_ble_eq_true rfl, Nat.le_of_ble_eq_true rfl⟩ hl rfl (Nat.le_of_ble_eq_true rfl) dX3_stepsToGo_72 ⟨Nat.le_refl _, Nat.le_refl _⟩ (fun H locs hW => ?_)
          refine lv_if_eq (tgt := 82) hx hb dX3_stepsToGo_75 (by decide) (fun c75 => ?_) (fun c75 => ?_)
          · skip
            refine lv_iconst (v := (-1)) hx hb dX3_stepsToGo_82 (by decide) ?_
            exact fz_ri X (fz_cast (by rw [hs]) hW) (absurd c75 c30) dX3_stepsToGo_83
          · skip
            refine lv_iload_n hx hb dX3_stepsToGo_78 rfl (lv_at hl 2 rfl) ?_
            refine lv_goto (tgt := 83) hx hb dX3_stepsToGo_79 (by decide) ?_
            exact fz_ri X (fz_cast (by rw [hs]) hW) (by rw [hs]) dX3_stepsToGo_83
        · skip
          have c30 : alI w = 0 := c30
          refine lv_aload_n hx hb dX3_stepsToGo_33 rfl (lv_at hl 0 rfl) ?_
          refine gf_X3_16 X hW 0 rfl rfl dX3_stepsToGo_34 ?_
          refine fz_cVi X hW (cf_hasFilmB l g f a b v w) lk_X3_126 (ci := 2) (q0 := 18) rfl rfl rfl rfl ⟨Nat.le_of_ble_eq_true rfl, Nat.le_of_ble_eq_true rfl⟩ hl rfl (Nat.le_of_ble_eq_true rfl) dX3_stepsToGo_37 ⟨Nat.le_refl _, Nat.le_refl _⟩ (fun H locs hW => ?_)
          refine lv_istore_n (lv' := [(3, .int (hfF w 0 48)), (0, .ref f), (1, .int x), (2, .int (nI n))]) hx hb dX3_stepsToGo_40 rfl hl (by decide) rfl (fun ls hl => ?_)
          refine lv_aload_n hx hb dX3_stepsToGo_41 rfl (lv_at hl 1 rfl) ?_
          refine gf_X3_16 X hW 0 rfl rfl dX3_stepsToGo_42 ?_
          refine lv_iload_n hx hb dX3_stepsToGo_45 rfl (lv_at hl 2 rfl) ?_
          refine fz_cVi X hW (cf_passStepB l g f a b v w x hk2.1 hk2.2.1 hk2.2.2) lk_X3_63 (ci := 2) (q0 := 18) rfl rfl rfl rfl ⟨Nat.le_of_ble_eq_true rfl, Nat.le_of_ble_eq_true rfl⟩ hl rfl (Nat.le_of_ble_eq_true rfl) dX3_stepsToGo_46 ⟨Nat.le_refl _, Nat.le_refl _⟩ (fun H locs hW => ?_)
          refine lv_istore (lv' := [(4, .int ((psA w x).1)), (3, .int (hfF w 0 48)), (0, .ref f), (1, .int x), (2, .int (nI n))]) hx hb dX3_stepsToGo_49 hl (by decide) rfl (fun ls hl => ?_)
          refine lv_iload hx hb dX3_stepsToGo_51 (lv_at hl 0 rfl) ?_
          refine lv_if_ne (tgt := 62) hx hb dX3_stepsToGo_53 (by decide) (fun c53 => ?_) (fun c53 => ?_)
          · skip
            have hneg : ¬ ((psA w x).1 = 0 ∧ hfF w 0 48 = 0) := fun z => c53 z.1
            refine lv_iinc (v := nI (n + 1)) (lv' := [(2, .int (nI (n + 1))), (4, .int ((psA w x).1)), (3, .int (hfF w 0 48)), (0, .ref f), (1, .int x)]) hx hb dX3_stepsToGo_62 hl (k := 4) rfl (nI_1 _) (by decide) rfl (fun ls hl => ?_)
            refine lv_goto (tgt := 17) hx hb dX3_stepsToGo_65 (by decide) ?_
            exact ih17 (n + 1) (psV w x) (by omega) (by omega) (by rw [he, show 100 - n = (100 - (n + 1)) + 1 by omega]; exact (if_pos c30).trans (if_neg hneg)) (SOK_ps w x hk2) _ _ _ (fz_cast (rfl) hW) (lv_sub hl [3, 4, 0] rfl)
          · skip
            refine lv_iload_n hx hb dX3_stepsToGo_56 rfl (lv_at hl 1 rfl) ?_
            refine lv_if_ne (tgt := 62) hx hb dX3_stepsToGo_57 (by decide) (fun c57 => ?_) (fun c57 => ?_)
            · skip
              have hneg : ¬ ((psA w x).1 = 0 ∧ hfF w 0 48 = 0) := fun z => c57 z.2
              refine lv_iinc (v := nI (n + 1)) (lv' := [(2, .int (nI (n + 1))), (4, .int ((psA w x).1)), (3, .int (hfF w 0 48)), (0, .ref f), (1, .int x)]) hx hb dX3_stepsToGo_62 hl (k := 4) rfl (nI_1 _) (by decide) rfl (fun ls hl => ?_)
              refine lv_goto (tgt := 17) hx hb dX3_stepsToGo_65 (by decide) ?_
              exact ih17 (n + 1) (psV w x) (by omega) (by omega) (by rw [he, show 100 - n = (100 - (n + 1)) + 1 by omega]; exact (if_pos c30).trans (if_neg hneg)) (SOK_ps w x hk2) _ _ _ (fz_cast (rfl) hW) (lv_sub hl [3, 4, 0] rfl)
            · skip
              have hs : stgF x (coV u v) 0 100 = (-1, psV w x) := by rw [he, show 100 - n = (100 - (n + 1)) + 1 by omega]; exact (if_pos c30).trans (if_pos ⟨c53, c57⟩)
              refine lv_iconst (v := (-1)) hx hb dX3_stepsToGo_60 (by decide) ?_
              exact fz_ri X (fz_cast (by rw [hs]) hW) (by rw [hs]) dX3_stepsToGo_61
  exact loop17 101 0 (coV u v) (by omega) (by omega) rfl (SOK_co u v hok) _ _ _ (fz_cast (rfl) hW) (lv_sub hl [1, 2, 0] rfl)
end
section
/-! the decode rows of the law's own methods -/
theorem dL_cell_0 : decode cL_cell 0 = .ok (.iload_n 1, 1) := by decide +kernel
theorem dL_cell_1 : decode cL_cell 1 = .ok (.aload_n 0, 1) := by decide +kernel
theorem dL_cell_2 : decode cL_cell 2 = .ok (.arraylength, 1) := by decide +kernel
theorem dL_cell_3 : decode cL_cell 3 = .ok (.if_icmp .ge 9, 3) := by decide +kernel
theorem dL_cell_6 : decode cL_cell 6 = .ok (.aload_n 0, 1) := by decide +kernel
theorem dL_cell_7 : decode cL_cell 7 = .ok (.iload_n 1, 1) := by decide +kernel
theorem dL_cell_8 : decode cL_cell 8 = .ok (.iaload, 1) := by decide +kernel
theorem dL_cell_9 : decode cL_cell 9 = .ok (.goto 12, 3) := by decide +kernel
theorem dL_cell_12 : decode cL_cell 12 = .ok (.ldc 7, 2) := by decide +kernel
theorem dL_cell_14 : decode cL_cell 14 = .ok (.iload_n 1, 1) := by decide +kernel
theorem dL_cell_15 : decode cL_cell 15 = .ok (.iconst 1, 1) := by decide +kernel
theorem dL_cell_16 : decode cL_cell 16 = .ok (.iadd, 1) := by decide +kernel
theorem dL_cell_17 : decode cL_cell 17 = .ok (.imul, 1) := by decide +kernel
theorem dL_cell_18 : decode cL_cell 18 = .ok (.ldc 8, 2) := by decide +kernel
theorem dL_cell_20 : decode cL_cell 20 = .ok (.iadd, 1) := by decide +kernel
theorem dL_cell_21 : decode cL_cell 21 = .ok (.ireturn, 1) := by decide +kernel
theorem dL_low_0 : decode cL_low 0 = .ok (.iload_n 0, 1) := by decide +kernel
theorem dL_low_1 : decode cL_low 1 = .ok (.ldc 9, 2) := by decide +kernel
theorem dL_low_3 : decode cL_low 3 = .ok (.iand, 1) := by decide +kernel
theorem dL_low_4 : decode cL_low 4 = .ok (.iload_n 1, 1) := by decide +kernel
theorem dL_low_5 : decode cL_low 5 = .ok (.irem, 1) := by decide +kernel
theorem dL_low_6 : decode cL_low 6 = .ok (.ireturn, 1) := by decide +kernel
theorem dL_kind_0 : decode cL_kind 0 = .ok (.iconst 0, 1) := by decide +kernel
theorem dL_kind_1 : decode cL_kind 1 = .ok (.istore_n 3, 1) := by decide +kernel
theorem dL_kind_2 : decode cL_kind 2 = .ok (.aload_n 2, 1) := by decide +kernel
theorem dL_kind_3 : decode cL_kind 3 = .ok (.iload_n 0, 1) := by decide +kernel
theorem dL_kind_4 : decode cL_kind 4 = .ok (.iaload, 1) := by decide +kernel
theorem dL_kind_5 : decode cL_kind 5 = .ok (.istore 4, 2) := by decide +kernel
theorem dL_kind_7 : decode cL_kind 7 = .ok (.iload 4, 2) := by decide +kernel
theorem dL_kind_9 : decode cL_kind 9 = .ok (.ifCond .le 19, 3) := by decide +kernel
theorem dL_kind_12 : decode cL_kind 12 = .ok (.iload_n 3, 1) := by decide +kernel
theorem dL_kind_13 : decode cL_kind 13 = .ok (.iload 4, 2) := by decide +kernel
theorem dL_kind_15 : decode cL_kind 15 = .ok (.iconst 2, 1) := by decide +kernel
theorem dL_kind_16 : decode cL_kind 16 = .ok (.irem, 1) := by decide +kernel
theorem dL_kind_17 : decode cL_kind 17 = .ok (.iadd, 1) := by decide +kernel
theorem dL_kind_18 : decode cL_kind 18 = .ok (.istore_n 3, 1) := by decide +kernel
theorem dL_kind_19 : decode cL_kind 19 = .ok (.iload 4, 2) := by decide +kernel
theorem dL_kind_21 : decode cL_kind 21 = .ok (.iconst 2, 1) := by decide +kernel
theorem dL_kind_22 : decode cL_kind 22 = .ok (.idiv, 1) := by decide +kernel
theorem dL_kind_23 : decode cL_kind 23 = .ok (.istore 4, 2) := by decide +kernel
theorem dL_kind_25 : decode cL_kind 25 = .ok (.goto (-18), 3) := by decide +kernel
theorem dL_kind_28 : decode cL_kind 28 = .ok (.iload_n 3, 1) := by decide +kernel
theorem dL_kind_29 : decode cL_kind 29 = .ok (.iconst 4, 1) := by decide +kernel
theorem dL_kind_30 : decode cL_kind 30 = .ok (.if_icmp .lt 7, 3) := by decide +kernel
theorem dL_kind_33 : decode cL_kind 33 = .ok (.iconst 2, 1) := by decide +kernel
theorem dL_kind_34 : decode cL_kind 34 = .ok (.goto 17, 3) := by decide +kernel
theorem dL_kind_37 : decode cL_kind 37 = .ok (.aload_n 1, 1) := by decide +kernel
theorem dL_kind_38 : decode cL_kind 38 = .ok (.iload_n 0, 1) := by decide +kernel
theorem dL_kind_39 : decode cL_kind 39 = .ok (.iaload, 1) := by decide +kernel
theorem dL_kind_40 : decode cL_kind 40 = .ok (.bipush 64, 2) := by decide +kernel
theorem dL_kind_42 : decode cL_kind 42 = .ok (.idiv, 1) := by decide +kernel
theorem dL_kind_43 : decode cL_kind 43 = .ok (.ifCond .ne 7, 3) := by decide +kernel
theorem dL_kind_46 : decode cL_kind 46 = .ok (.iconst 0, 1) := by decide +kernel
theorem dL_kind_47 : decode cL_kind 47 = .ok (.goto 4, 3) := by decide +kernel
theorem dL_kind_50 : decode cL_kind 50 = .ok (.iconst 1, 1) := by decide +kernel
theorem dL_kind_51 : decode cL_kind 51 = .ok (.ireturn, 1) := by decide +kernel
theorem dL_like_0 : decode cL_like 0 = .ok (.aload_n 1, 1) := by decide +kernel
theorem dL_like_1 : decode cL_like 1 = .ok (.iload_n 0, 1) := by decide +kernel
theorem dL_like_2 : decode cL_like 2 = .ok (.iaload, 1) := by decide +kernel
theorem dL_like_3 : decode cL_like 3 = .ok (.aload_n 2, 1) := by decide +kernel
theorem dL_like_4 : decode cL_like 4 = .ok (.iload_n 0, 1) := by decide +kernel
theorem dL_like_5 : decode cL_like 5 = .ok (.iaload, 1) := by decide +kernel
theorem dL_like_6 : decode cL_like 6 = .ok (.if_icmp .ne 10, 3) := by decide +kernel
theorem dL_like_9 : decode cL_like 9 = .ok (.aload_n 3, 1) := by decide +kernel
theorem dL_like_10 : decode cL_like 10 = .ok (.iload_n 0, 1) := by decide +kernel
theorem dL_like_11 : decode cL_like 11 = .ok (.iconst (-1), 1) := by decide +kernel
theorem dL_like_12 : decode cL_like 12 = .ok (.iastore, 1) := by decide +kernel
theorem dL_like_13 : decode cL_like 13 = .ok (.goto 16, 3) := by decide +kernel
theorem dL_like_16 : decode cL_like 16 = .ok (.aload_n 3, 1) := by decide +kernel
theorem dL_like_17 : decode cL_like 17 = .ok (.iload_n 0, 1) := by decide +kernel
theorem dL_like_18 : decode cL_like 18 = .ok (.iaload, 1) := by decide +kernel
theorem dL_like_19 : decode cL_like 19 = .ok (.ifCond .ge 10, 3) := by decide +kernel
theorem dL_like_22 : decode cL_like 22 = .ok (.aload_n 3, 1) := by decide +kernel
theorem dL_like_23 : decode cL_like 23 = .ok (.iload_n 0, 1) := by decide +kernel
theorem dL_like_24 : decode cL_like 24 = .ok (.aload 4, 2) := by decide +kernel
theorem dL_like_26 : decode cL_like 26 = .ok (.iconst 0, 1) := by decide +kernel
theorem dL_like_27 : decode cL_like 27 = .ok (.iaload, 1) := by decide +kernel
theorem dL_like_28 : decode cL_like 28 = .ok (.iastore, 1) := by decide +kernel
theorem dL_like_29 : decode cL_like 29 = .ok (.return_, 1) := by decide +kernel
theorem dL_draw_0 : decode cL_draw 0 = .ok (.aload_n 2, 1) := by decide +kernel
theorem dL_draw_1 : decode cL_draw 1 = .ok (.iload_n 0, 1) := by decide +kernel
theorem dL_draw_2 : decode cL_draw 2 = .ok (.iaload, 1) := by decide +kernel
theorem dL_draw_3 : decode cL_draw 3 = .ok (.iload_n 1, 1) := by decide +kernel
theorem dL_draw_4 : decode cL_draw 4 = .ok (.if_icmp .eq 11, 3) := by decide +kernel
theorem dL_draw_7 : decode cL_draw 7 = .ok (.aload 5, 2) := by decide +kernel
theorem dL_draw_9 : decode cL_draw 9 = .ok (.iload_n 0, 1) := by decide +kernel
theorem dL_draw_10 : decode cL_draw 10 = .ok (.dup2, 1) := by decide +kernel
theorem dL_draw_11 : decode cL_draw 11 = .ok (.iaload, 1) := by decide +kernel
theorem dL_draw_12 : decode cL_draw 12 = .ok (.iconst 1, 1) := by decide +kernel
theorem dL_draw_13 : decode cL_draw 13 = .ok (.ior, 1) := by decide +kernel
theorem dL_draw_14 : decode cL_draw 14 = .ok (.iastore, 1) := by decide +kernel
theorem dL_draw_15 : decode cL_draw 15 = .ok (.aload_n 2, 1) := by decide +kernel
theorem dL_draw_16 : decode cL_draw 16 = .ok (.iload_n 0, 1) := by decide +kernel
theorem dL_draw_17 : decode cL_draw 17 = .ok (.iload_n 1, 1) := by decide +kernel
theorem dL_draw_18 : decode cL_draw 18 = .ok (.iastore, 1) := by decide +kernel
theorem dL_draw_19 : decode cL_draw 19 = .ok (.iload_n 0, 1) := by decide +kernel
theorem dL_draw_20 : decode cL_draw 20 = .ok (.aload_n 2, 1) := by decide +kernel
theorem dL_draw_21 : decode cL_draw 21 = .ok (.aload_n 3, 1) := by decide +kernel
theorem dL_draw_22 : decode cL_draw 22 = .ok (.aload 4, 2) := by decide +kernel
theorem dL_draw_24 : decode cL_draw 24 = .ok (.aload 6, 2) := by decide +kernel
theorem dL_draw_26 : decode cL_draw 26 = .ok (.invokestatic 10, 3) := by decide +kernel
theorem dL_draw_29 : decode cL_draw 29 = .ok (.return_, 1) := by decide +kernel
theorem dL_shift_0 : decode cL_shift 0 = .ok (.bipush 8, 2) := by decide +kernel
theorem dL_shift_2 : decode cL_shift 2 = .ok (.aload_n 1, 1) := by decide +kernel
theorem dL_shift_3 : decode cL_shift 3 = .ok (.iload_n 2, 1) := by decide +kernel
theorem dL_shift_4 : decode cL_shift 4 = .ok (.iconst 5, 1) := by decide +kernel
theorem dL_shift_5 : decode cL_shift 5 = .ok (.iadd, 1) := by decide +kernel
theorem dL_shift_6 : decode cL_shift 6 = .ok (.iaload, 1) := by decide +kernel
theorem dL_shift_7 : decode cL_shift 7 = .ok (.aload_n 1, 1) := by decide +kernel
theorem dL_shift_8 : decode cL_shift 8 = .ok (.iload_n 2, 1) := by decide +kernel
theorem dL_shift_9 : decode cL_shift 9 = .ok (.iconst 1, 1) := by decide +kernel
theorem dL_shift_10 : decode cL_shift 10 = .ok (.iadd, 1) := by decide +kernel
theorem dL_shift_11 : decode cL_shift 11 = .ok (.iaload, 1) := by decide +kernel
theorem dL_shift_12 : decode cL_shift 12 = .ok (.isub, 1) := by decide +kernel
theorem dL_shift_13 : decode cL_shift 13 = .ok (.imul, 1) := by decide +kernel
theorem dL_shift_14 : decode cL_shift 14 = .ok (.aload_n 1, 1) := by decide +kernel
theorem dL_shift_15 : decode cL_shift 15 = .ok (.iload_n 2, 1) := by decide +kernel
theorem dL_shift_16 : decode cL_shift 16 = .ok (.iconst 4, 1) := by decide +kernel
theorem dL_shift_17 : decode cL_shift 17 = .ok (.iadd, 1) := by decide +kernel
theorem dL_shift_18 : decode cL_shift 18 = .ok (.iaload, 1) := by decide +kernel
theorem dL_shift_19 : decode cL_shift 19 = .ok (.iadd, 1) := by decide +kernel
theorem dL_shift_20 : decode cL_shift 20 = .ok (.aload_n 1, 1) := by decide +kernel
theorem dL_shift_21 : decode cL_shift 21 = .ok (.iload_n 2, 1) := by decide +kernel
theorem dL_shift_22 : decode cL_shift 22 = .ok (.iaload, 1) := by decide +kernel
theorem dL_shift_23 : decode cL_shift 23 = .ok (.isub, 1) := by decide +kernel
theorem dL_shift_24 : decode cL_shift 24 = .ok (.istore_n 3, 1) := by decide +kernel
theorem dL_shift_25 : decode cL_shift 25 = .ok (.aload_n 1, 1) := by decide +kernel
theorem dL_shift_26 : decode cL_shift 26 = .ok (.iload_n 2, 1) := by decide +kernel
theorem dL_shift_27 : decode cL_shift 27 = .ok (.iconst 2, 1) := by decide +kernel
theorem dL_shift_28 : decode cL_shift 28 = .ok (.iadd, 1) := by decide +kernel
theorem dL_shift_29 : decode cL_shift 29 = .ok (.iaload, 1) := by decide +kernel
theorem dL_shift_30 : decode cL_shift 30 = .ok (.aload_n 1, 1) := by decide +kernel
theorem dL_shift_31 : decode cL_shift 31 = .ok (.iload_n 2, 1) := by decide +kernel
theorem dL_shift_32 : decode cL_shift 32 = .ok (.iconst 3, 1) := by decide +kernel
theorem dL_shift_33 : decode cL_shift 33 = .ok (.iadd, 1) := by decide +kernel
theorem dL_shift_34 : decode cL_shift 34 = .ok (.iaload, 1) := by decide +kernel
theorem dL_shift_35 : decode cL_shift 35 = .ok (.imul, 1) := by decide +kernel
theorem dL_shift_36 : decode cL_shift 36 = .ok (.istore 4, 2) := by decide +kernel
theorem dL_shift_38 : decode cL_shift 38 = .ok (.iconst 0, 1) := by decide +kernel
theorem dL_shift_39 : decode cL_shift 39 = .ok (.istore 5, 2) := by decide +kernel
theorem dL_shift_41 : decode cL_shift 41 = .ok (.iload 5, 2) := by decide +kernel
theorem dL_shift_43 : decode cL_shift 43 = .ok (.iload 4, 2) := by decide +kernel
theorem dL_shift_45 : decode cL_shift 45 = .ok (.if_icmp .ge 69, 3) := by decide +kernel
theorem dL_shift_48 : decode cL_shift 48 = .ok (.iload_n 3, 1) := by decide +kernel
theorem dL_shift_49 : decode cL_shift 49 = .ok (.ifCond .le 13, 3) := by decide +kernel
theorem dL_shift_52 : decode cL_shift 52 = .ok (.iload 4, 2) := by decide +kernel
theorem dL_shift_54 : decode cL_shift 54 = .ok (.iconst 1, 1) := by decide +kernel
theorem dL_shift_55 : decode cL_shift 55 = .ok (.isub, 1) := by decide +kernel
theorem dL_shift_56 : decode cL_shift 56 = .ok (.iload 5, 2) := by decide +kernel
theorem dL_shift_58 : decode cL_shift 58 = .ok (.isub, 1) := by decide +kernel
theorem dL_shift_59 : decode cL_shift 59 = .ok (.goto 5, 3) := by decide +kernel
theorem dL_shift_62 : decode cL_shift 62 = .ok (.iload 5, 2) := by decide +kernel
theorem dL_shift_64 : decode cL_shift 64 = .ok (.istore 6, 2) := by decide +kernel
theorem dL_shift_66 : decode cL_shift 66 = .ok (.bipush 8, 2) := by decide +kernel
theorem dL_shift_68 : decode cL_shift 68 = .ok (.aload_n 1, 1) := by decide +kernel
theorem dL_shift_69 : decode cL_shift 69 = .ok (.iload_n 2, 1) := by decide +kernel
theorem dL_shift_70 : decode cL_shift 70 = .ok (.iconst 1, 1) := by decide +kernel
theorem dL_shift_71 : decode cL_shift 71 = .ok (.iadd, 1) := by decide +kernel
theorem dL_shift_72 : decode cL_shift 72 = .ok (.iaload, 1) := by decide +kernel
theorem dL_shift_73 : decode cL_shift 73 = .ok (.iload 6, 2) := by decide +kernel
theorem dL_shift_75 : decode cL_shift 75 = .ok (.aload_n 1, 1) := by decide +kernel
theorem dL_shift_76 : decode cL_shift 76 = .ok (.iload_n 2, 1) := by decide +kernel
theorem dL_shift_77 : decode cL_shift 77 = .ok (.iconst 2, 1) := by decide +kernel
theorem dL_shift_78 : decode cL_shift 78 = .ok (.iadd, 1) := by decide +kernel
theorem dL_shift_79 : decode cL_shift 79 = .ok (.iaload, 1) := by decide +kernel
theorem dL_shift_80 : decode cL_shift 80 = .ok (.idiv, 1) := by decide +kernel
theorem dL_shift_81 : decode cL_shift 81 = .ok (.iadd, 1) := by decide +kernel
theorem dL_shift_82 : decode cL_shift 82 = .ok (.imul, 1) := by decide +kernel
theorem dL_shift_83 : decode cL_shift 83 = .ok (.aload_n 1, 1) := by decide +kernel
theorem dL_shift_84 : decode cL_shift 84 = .ok (.iload_n 2, 1) := by decide +kernel
theorem dL_shift_85 : decode cL_shift 85 = .ok (.iaload, 1) := by decide +kernel
theorem dL_shift_86 : decode cL_shift 86 = .ok (.iadd, 1) := by decide +kernel
theorem dL_shift_87 : decode cL_shift 87 = .ok (.iload 6, 2) := by decide +kernel
theorem dL_shift_89 : decode cL_shift 89 = .ok (.aload_n 1, 1) := by decide +kernel
theorem dL_shift_90 : decode cL_shift 90 = .ok (.iload_n 2, 1) := by decide +kernel
theorem dL_shift_91 : decode cL_shift 91 = .ok (.iconst 2, 1) := by decide +kernel
theorem dL_shift_92 : decode cL_shift 92 = .ok (.iadd, 1) := by decide +kernel
theorem dL_shift_93 : decode cL_shift 93 = .ok (.iaload, 1) := by decide +kernel
theorem dL_shift_94 : decode cL_shift 94 = .ok (.irem, 1) := by decide +kernel
theorem dL_shift_95 : decode cL_shift 95 = .ok (.iadd, 1) := by decide +kernel
theorem dL_shift_96 : decode cL_shift 96 = .ok (.istore 7, 2) := by decide +kernel
theorem dL_shift_98 : decode cL_shift 98 = .ok (.aload_n 0, 1) := by decide +kernel
theorem dL_shift_99 : decode cL_shift 99 = .ok (.iload 7, 2) := by decide +kernel
theorem dL_shift_101 : decode cL_shift 101 = .ok (.iload_n 3, 1) := by decide +kernel
theorem dL_shift_102 : decode cL_shift 102 = .ok (.iadd, 1) := by decide +kernel
theorem dL_shift_103 : decode cL_shift 103 = .ok (.aload_n 0, 1) := by decide +kernel
theorem dL_shift_104 : decode cL_shift 104 = .ok (.iload 7, 2) := by decide +kernel
theorem dL_shift_106 : decode cL_shift 106 = .ok (.iaload, 1) := by decide +kernel
theorem dL_shift_107 : decode cL_shift 107 = .ok (.iastore, 1) := by decide +kernel
theorem dL_shift_108 : decode cL_shift 108 = .ok (.iinc 5 1, 3) := by decide +kernel
theorem dL_shift_111 : decode cL_shift 111 = .ok (.goto (-70), 3) := by decide +kernel
theorem dL_shift_114 : decode cL_shift 114 = .ok (.return_, 1) := by decide +kernel
theorem dL_meet_0 : decode cL_meet 0 = .ok (.iconst 0, 1) := by decide +kernel
theorem dL_meet_1 : decode cL_meet 1 = .ok (.istore_n 3, 1) := by decide +kernel
theorem dL_meet_2 : decode cL_meet 2 = .ok (.iload_n 3, 1) := by decide +kernel
theorem dL_meet_3 : decode cL_meet 3 = .ok (.bipush 8, 2) := by decide +kernel
theorem dL_meet_5 : decode cL_meet 5 = .ok (.if_icmp .ge 67, 3) := by decide +kernel
theorem dL_meet_8 : decode cL_meet 8 = .ok (.aload_n 1, 1) := by decide +kernel
theorem dL_meet_9 : decode cL_meet 9 = .ok (.iload_n 3, 1) := by decide +kernel
theorem dL_meet_10 : decode cL_meet 10 = .ok (.iaload, 1) := by decide +kernel
theorem dL_meet_11 : decode cL_meet 11 = .ok (.iload_n 0, 1) := by decide +kernel
theorem dL_meet_12 : decode cL_meet 12 = .ok (.iconst 1, 1) := by decide +kernel
theorem dL_meet_13 : decode cL_meet 13 = .ok (.iadd, 1) := by decide +kernel
theorem dL_meet_14 : decode cL_meet 14 = .ok (.if_icmp .eq 6, 3) := by decide +kernel
theorem dL_meet_17 : decode cL_meet 17 = .ok (.goto 49, 3) := by decide +kernel
theorem dL_meet_20 : decode cL_meet 20 = .ok (.iload_n 3, 1) := by decide +kernel
theorem dL_meet_21 : decode cL_meet 21 = .ok (.istore 4, 2) := by decide +kernel
theorem dL_meet_23 : decode cL_meet 23 = .ok (.iload 4, 2) := by decide +kernel
theorem dL_meet_25 : decode cL_meet 25 = .ok (.ifCond .le 23, 3) := by decide +kernel
theorem dL_meet_28 : decode cL_meet 28 = .ok (.iload_n 2, 1) := by decide +kernel
theorem dL_meet_29 : decode cL_meet 29 = .ok (.ifCond .ne 19, 3) := by decide +kernel
theorem dL_meet_32 : decode cL_meet 32 = .ok (.aload_n 1, 1) := by decide +kernel
theorem dL_meet_33 : decode cL_meet 33 = .ok (.iload 4, 2) := by decide +kernel
theorem dL_meet_35 : decode cL_meet 35 = .ok (.aload_n 1, 1) := by decide +kernel
theorem dL_meet_36 : decode cL_meet 36 = .ok (.iload 4, 2) := by decide +kernel
theorem dL_meet_38 : decode cL_meet 38 = .ok (.iconst 1, 1) := by decide +kernel
theorem dL_meet_39 : decode cL_meet 39 = .ok (.isub, 1) := by decide +kernel
theorem dL_meet_40 : decode cL_meet 40 = .ok (.iaload, 1) := by decide +kernel
theorem dL_meet_41 : decode cL_meet 41 = .ok (.iastore, 1) := by decide +kernel
theorem dL_meet_42 : decode cL_meet 42 = .ok (.iinc 4 (-1), 3) := by decide +kernel
theorem dL_meet_45 : decode cL_meet 45 = .ok (.goto (-22), 3) := by decide +kernel
theorem dL_meet_48 : decode cL_meet 48 = .ok (.aload_n 1, 1) := by decide +kernel
theorem dL_meet_49 : decode cL_meet 49 = .ok (.iconst 0, 1) := by decide +kernel
theorem dL_meet_50 : decode cL_meet 50 = .ok (.iload_n 2, 1) := by decide +kernel
theorem dL_meet_51 : decode cL_meet 51 = .ok (.ifCond .eq 9, 3) := by decide +kernel
theorem dL_meet_54 : decode cL_meet 54 = .ok (.aload_n 1, 1) := by decide +kernel
theorem dL_meet_55 : decode cL_meet 55 = .ok (.iconst 0, 1) := by decide +kernel
theorem dL_meet_56 : decode cL_meet 56 = .ok (.iaload, 1) := by decide +kernel
theorem dL_meet_57 : decode cL_meet 57 = .ok (.goto 6, 3) := by decide +kernel
theorem dL_meet_60 : decode cL_meet 60 = .ok (.iload_n 0, 1) := by decide +kernel
theorem dL_meet_61 : decode cL_meet 61 = .ok (.iconst 1, 1) := by decide +kernel
theorem dL_meet_62 : decode cL_meet 62 = .ok (.iadd, 1) := by decide +kernel
theorem dL_meet_63 : decode cL_meet 63 = .ok (.iastore, 1) := by decide +kernel
theorem dL_meet_64 : decode cL_meet 64 = .ok (.iconst 1, 1) := by decide +kernel
theorem dL_meet_65 : decode cL_meet 65 = .ok (.ireturn, 1) := by decide +kernel
theorem dL_meet_66 : decode cL_meet 66 = .ok (.iinc 3 1, 3) := by decide +kernel
theorem dL_meet_69 : decode cL_meet 69 = .ok (.goto (-67), 3) := by decide +kernel
theorem dL_meet_72 : decode cL_meet 72 = .ok (.bipush 7, 2) := by decide +kernel
theorem dL_meet_74 : decode cL_meet 74 = .ok (.istore_n 3, 1) := by decide +kernel
theorem dL_meet_75 : decode cL_meet 75 = .ok (.iload_n 3, 1) := by decide +kernel
theorem dL_meet_76 : decode cL_meet 76 = .ok (.ifCond .le 21, 3) := by decide +kernel
theorem dL_meet_79 : decode cL_meet 79 = .ok (.iload_n 2, 1) := by decide +kernel
theorem dL_meet_80 : decode cL_meet 80 = .ok (.ifCond .ne 17, 3) := by decide +kernel
theorem dL_meet_83 : decode cL_meet 83 = .ok (.aload_n 1, 1) := by decide +kernel
theorem dL_meet_84 : decode cL_meet 84 = .ok (.iload_n 3, 1) := by decide +kernel
theorem dL_meet_85 : decode cL_meet 85 = .ok (.aload_n 1, 1) := by decide +kernel
theorem dL_meet_86 : decode cL_meet 86 = .ok (.iload_n 3, 1) := by decide +kernel
theorem dL_meet_87 : decode cL_meet 87 = .ok (.iconst 1, 1) := by decide +kernel
theorem dL_meet_88 : decode cL_meet 88 = .ok (.isub, 1) := by decide +kernel
theorem dL_meet_89 : decode cL_meet 89 = .ok (.iaload, 1) := by decide +kernel
theorem dL_meet_90 : decode cL_meet 90 = .ok (.iastore, 1) := by decide +kernel
theorem dL_meet_91 : decode cL_meet 91 = .ok (.iinc 3 (-1), 3) := by decide +kernel
theorem dL_meet_94 : decode cL_meet 94 = .ok (.goto (-19), 3) := by decide +kernel
theorem dL_meet_97 : decode cL_meet 97 = .ok (.aload_n 1, 1) := by decide +kernel
theorem dL_meet_98 : decode cL_meet 98 = .ok (.iconst 0, 1) := by decide +kernel
theorem dL_meet_99 : decode cL_meet 99 = .ok (.iload_n 2, 1) := by decide +kernel
theorem dL_meet_100 : decode cL_meet 100 = .ok (.ifCond .eq 9, 3) := by decide +kernel
theorem dL_meet_103 : decode cL_meet 103 = .ok (.aload_n 1, 1) := by decide +kernel
theorem dL_meet_104 : decode cL_meet 104 = .ok (.iconst 0, 1) := by decide +kernel
theorem dL_meet_105 : decode cL_meet 105 = .ok (.iaload, 1) := by decide +kernel
theorem dL_meet_106 : decode cL_meet 106 = .ok (.goto 6, 3) := by decide +kernel
theorem dL_meet_109 : decode cL_meet 109 = .ok (.iload_n 0, 1) := by decide +kernel
theorem dL_meet_110 : decode cL_meet 110 = .ok (.iconst 1, 1) := by decide +kernel
theorem dL_meet_111 : decode cL_meet 111 = .ok (.iadd, 1) := by decide +kernel
theorem dL_meet_112 : decode cL_meet 112 = .ok (.iastore, 1) := by decide +kernel
theorem dL_meet_113 : decode cL_meet 113 = .ok (.iconst 0, 1) := by decide +kernel
theorem dL_meet_114 : decode cL_meet 114 = .ok (.ireturn, 1) := by decide +kernel
theorem dL_step_0 : decode cL_step 0 = .ok (.iload_n 0, 1) := by decide +kernel
theorem dL_step_1 : decode cL_step 1 = .ok (.istore 8, 2) := by decide +kernel
theorem dL_step_3 : decode cL_step 3 = .ok (.aload 7, 2) := by decide +kernel
theorem dL_step_5 : decode cL_step 5 = .ok (.iconst 2, 1) := by decide +kernel
theorem dL_step_6 : decode cL_step 6 = .ok (.iaload, 1) := by decide +kernel
theorem dL_step_7 : decode cL_step 7 = .ok (.ifCond .le 93, 3) := by decide +kernel
theorem dL_step_10 : decode cL_step 10 = .ok (.iload 8, 2) := by decide +kernel
theorem dL_step_12 : decode cL_step 12 = .ok (.iconst 1, 1) := by decide +kernel
theorem dL_step_13 : decode cL_step 13 = .ok (.if_icmp .le 87, 3) := by decide +kernel
theorem dL_step_16 : decode cL_step 16 = .ok (.aload_n 2, 1) := by decide +kernel
theorem dL_step_17 : decode cL_step 17 = .ok (.aload 5, 2) := by decide +kernel
theorem dL_step_19 : decode cL_step 19 = .ok (.iconst 0, 1) := by decide +kernel
theorem dL_step_20 : decode cL_step 20 = .ok (.invokestatic 16, 3) := by decide +kernel
theorem dL_step_23 : decode cL_step 23 = .ok (.iconst 0, 1) := by decide +kernel
theorem dL_step_24 : decode cL_step 24 = .ok (.istore 9, 2) := by decide +kernel
theorem dL_step_26 : decode cL_step 26 = .ok (.iload 9, 2) := by decide +kernel
theorem dL_step_28 : decode cL_step 28 = .ok (.bipush 48, 2) := by decide +kernel
theorem dL_step_30 : decode cL_step 30 = .ok (.if_icmp .ge 19, 3) := by decide +kernel
theorem dL_step_33 : decode cL_step 33 = .ok (.iload 9, 2) := by decide +kernel
theorem dL_step_35 : decode cL_step 35 = .ok (.aload_n 1, 1) := by decide +kernel
theorem dL_step_36 : decode cL_step 36 = .ok (.aload_n 2, 1) := by decide +kernel
theorem dL_step_37 : decode cL_step 37 = .ok (.aload_n 3, 1) := by decide +kernel
theorem dL_step_38 : decode cL_step 38 = .ok (.aload 7, 2) := by decide +kernel
theorem dL_step_40 : decode cL_step 40 = .ok (.invokestatic 10, 3) := by decide +kernel
theorem dL_step_43 : decode cL_step 43 = .ok (.iinc 9 1, 3) := by decide +kernel
theorem dL_step_46 : decode cL_step 46 = .ok (.goto (-20), 3) := by decide +kernel
theorem dL_step_49 : decode cL_step 49 = .ok (.iconst 0, 1) := by decide +kernel
theorem dL_step_50 : decode cL_step 50 = .ok (.istore 9, 2) := by decide +kernel
theorem dL_step_52 : decode cL_step 52 = .ok (.iload 9, 2) := by decide +kernel
theorem dL_step_54 : decode cL_step 54 = .ok (.bipush 18, 2) := by decide +kernel
theorem dL_step_56 : decode cL_step 56 = .ok (.if_icmp .ge 22, 3) := by decide +kernel
theorem dL_step_59 : decode cL_step 59 = .ok (.aload 5, 2) := by decide +kernel
theorem dL_step_61 : decode cL_step 61 = .ok (.iload 9, 2) := by decide +kernel
theorem dL_step_63 : decode cL_step 63 = .ok (.aload 5, 2) := by decide +kernel
theorem dL_step_65 : decode cL_step 65 = .ok (.iload 9, 2) := by decide +kernel
theorem dL_step_67 : decode cL_step 67 = .ok (.bipush 6, 2) := by decide +kernel
theorem dL_step_69 : decode cL_step 69 = .ok (.iadd, 1) := by decide +kernel
theorem dL_step_70 : decode cL_step 70 = .ok (.iaload, 1) := by decide +kernel
theorem dL_step_71 : decode cL_step 71 = .ok (.iastore, 1) := by decide +kernel
theorem dL_step_72 : decode cL_step 72 = .ok (.iinc 9 1, 3) := by decide +kernel
theorem dL_step_75 : decode cL_step 75 = .ok (.goto (-23), 3) := by decide +kernel
theorem dL_step_78 : decode cL_step 78 = .ok (.aload 7, 2) := by decide +kernel
theorem dL_step_80 : decode cL_step 80 = .ok (.iconst 2, 1) := by decide +kernel
theorem dL_step_81 : decode cL_step 81 = .ok (.dup2, 1) := by decide +kernel
theorem dL_step_82 : decode cL_step 82 = .ok (.iaload, 1) := by decide +kernel
theorem dL_step_83 : decode cL_step 83 = .ok (.iconst 1, 1) := by decide +kernel
theorem dL_step_84 : decode cL_step 84 = .ok (.isub, 1) := by decide +kernel
theorem dL_step_85 : decode cL_step 85 = .ok (.iastore, 1) := by decide +kernel
theorem dL_step_86 : decode cL_step 86 = .ok (.aload 7, 2) := by decide +kernel
theorem dL_step_88 : decode cL_step 88 = .ok (.iconst 4, 1) := by decide +kernel
theorem dL_step_89 : decode cL_step 89 = .ok (.dup2, 1) := by decide +kernel
theorem dL_step_90 : decode cL_step 90 = .ok (.iaload, 1) := by decide +kernel
theorem dL_step_91 : decode cL_step 91 = .ok (.iconst 1, 1) := by decide +kernel
theorem dL_step_92 : decode cL_step 92 = .ok (.iadd, 1) := by decide +kernel
theorem dL_step_93 : decode cL_step 93 = .ok (.iastore, 1) := by decide +kernel
theorem dL_step_94 : decode cL_step 94 = .ok (.iinc 8 (-2), 3) := by decide +kernel
theorem dL_step_97 : decode cL_step 97 = .ok (.goto (-94), 3) := by decide +kernel
theorem dL_step_100 : decode cL_step 100 = .ok (.bipush 48, 2) := by decide +kernel
theorem dL_step_102 : decode cL_step 102 = .ok (.newarray .int, 2) := by decide +kernel
theorem dL_step_104 : decode cL_step 104 = .ok (.astore 9, 2) := by decide +kernel
theorem dL_step_106 : decode cL_step 106 = .ok (.iconst 0, 1) := by decide +kernel
theorem dL_step_107 : decode cL_step 107 = .ok (.istore 10, 2) := by decide +kernel
theorem dL_step_109 : decode cL_step 109 = .ok (.aload 7, 2) := by decide +kernel
theorem dL_step_111 : decode cL_step 111 = .ok (.iconst 0, 1) := by decide +kernel
theorem dL_step_112 : decode cL_step 112 = .ok (.iaload, 1) := by decide +kernel
theorem dL_step_113 : decode cL_step 113 = .ok (.iconst 5, 1) := by decide +kernel
theorem dL_step_114 : decode cL_step 114 = .ok (.iadd, 1) := by decide +kernel
theorem dL_step_115 : decode cL_step 115 = .ok (.istore 11, 2) := by decide +kernel
theorem dL_step_117 : decode cL_step 117 = .ok (.iload 11, 2) := by decide +kernel
theorem dL_step_119 : decode cL_step 119 = .ok (.ifCond .lt 127, 3) := by decide +kernel
theorem dL_step_122 : decode cL_step 122 = .ok (.aload 7, 2) := by decide +kernel
theorem dL_step_124 : decode cL_step 124 = .ok (.iconst 2, 1) := by decide +kernel
theorem dL_step_125 : decode cL_step 125 = .ok (.iaload, 1) := by decide +kernel
theorem dL_step_126 : decode cL_step 126 = .ok (.ifCond .ne 120, 3) := by decide +kernel
theorem dL_step_129 : decode cL_step 129 = .ok (.iconst 0, 1) := by decide +kernel
theorem dL_step_130 : decode cL_step 130 = .ok (.istore 12, 2) := by decide +kernel
theorem dL_step_132 : decode cL_step 132 = .ok (.iload 12, 2) := by decide +kernel
theorem dL_step_134 : decode cL_step 134 = .ok (.bipush 48, 2) := by decide +kernel
theorem dL_step_136 : decode cL_step 136 = .ok (.if_icmp .ge 104, 3) := by decide +kernel
theorem dL_step_139 : decode cL_step 139 = .ok (.aload_n 3, 1) := by decide +kernel
theorem dL_step_140 : decode cL_step 140 = .ok (.iload 12, 2) := by decide +kernel
theorem dL_step_142 : decode cL_step 142 = .ok (.iaload, 1) := by decide +kernel
theorem dL_step_143 : decode cL_step 143 = .ok (.ifCond .ge 6, 3) := by decide +kernel
theorem dL_step_146 : decode cL_step 146 = .ok (.goto 88, 3) := by decide +kernel
theorem dL_step_149 : decode cL_step 149 = .ok (.iload 12, 2) := by decide +kernel
theorem dL_step_151 : decode cL_step 151 = .ok (.bipush 8, 2) := by decide +kernel
theorem dL_step_153 : decode cL_step 153 = .ok (.irem, 1) := by decide +kernel
theorem dL_step_154 : decode cL_step 154 = .ok (.aload 7, 2) := by decide +kernel
theorem dL_step_156 : decode cL_step 156 = .ok (.iconst 1, 1) := by decide +kernel
theorem dL_step_157 : decode cL_step 157 = .ok (.iaload, 1) := by decide +kernel
theorem dL_step_158 : decode cL_step 158 = .ok (.bipush 8, 2) := by decide +kernel
theorem dL_step_160 : decode cL_step 160 = .ok (.irem, 1) := by decide +kernel
theorem dL_step_161 : decode cL_step 161 = .ok (.isub, 1) := by decide +kernel
theorem dL_step_162 : decode cL_step 162 = .ok (.istore 13, 2) := by decide +kernel
theorem dL_step_164 : decode cL_step 164 = .ok (.iload 12, 2) := by decide +kernel
theorem dL_step_166 : decode cL_step 166 = .ok (.bipush 8, 2) := by decide +kernel
theorem dL_step_168 : decode cL_step 168 = .ok (.idiv, 1) := by decide +kernel
theorem dL_step_169 : decode cL_step 169 = .ok (.aload 7, 2) := by decide +kernel
theorem dL_step_171 : decode cL_step 171 = .ok (.iconst 1, 1) := by decide +kernel
theorem dL_step_172 : decode cL_step 172 = .ok (.iaload, 1) := by decide +kernel
theorem dL_step_173 : decode cL_step 173 = .ok (.bipush 8, 2) := by decide +kernel
theorem dL_step_175 : decode cL_step 175 = .ok (.idiv, 1) := by decide +kernel
theorem dL_step_176 : decode cL_step 176 = .ok (.isub, 1) := by decide +kernel
theorem dL_step_177 : decode cL_step 177 = .ok (.istore 14, 2) := by decide +kernel
theorem dL_step_179 : decode cL_step 179 = .ok (.aload 7, 2) := by decide +kernel
theorem dL_step_181 : decode cL_step 181 = .ok (.iconst 0, 1) := by decide +kernel
theorem dL_step_182 : decode cL_step 182 = .ok (.iaload, 1) := by decide +kernel
theorem dL_step_183 : decode cL_step 183 = .ok (.aload_n 3, 1) := by decide +kernel
theorem dL_step_184 : decode cL_step 184 = .ok (.iload 12, 2) := by decide +kernel
theorem dL_step_186 : decode cL_step 186 = .ok (.iaload, 1) := by decide +kernel
theorem dL_step_187 : decode cL_step 187 = .ok (.isub, 1) := by decide +kernel
theorem dL_step_188 : decode cL_step 188 = .ok (.iload 13, 2) := by decide +kernel
theorem dL_step_190 : decode cL_step 190 = .ok (.iload 13, 2) := by decide +kernel
theorem dL_step_192 : decode cL_step 192 = .ok (.imul, 1) := by decide +kernel
theorem dL_step_193 : decode cL_step 193 = .ok (.iconst 2, 1) := by decide +kernel
theorem dL_step_194 : decode cL_step 194 = .ok (.if_icmp .ge 16, 3) := by decide +kernel
theorem dL_step_197 : decode cL_step 197 = .ok (.iload 14, 2) := by decide +kernel
theorem dL_step_199 : decode cL_step 199 = .ok (.iload 14, 2) := by decide +kernel
theorem dL_step_201 : decode cL_step 201 = .ok (.imul, 1) := by decide +kernel
theorem dL_step_202 : decode cL_step 202 = .ok (.iconst 2, 1) := by decide +kernel
theorem dL_step_203 : decode cL_step 203 = .ok (.if_icmp .ge 7, 3) := by decide +kernel
theorem dL_step_206 : decode cL_step 206 = .ok (.iconst 5, 1) := by decide +kernel
theorem dL_step_207 : decode cL_step 207 = .ok (.goto 4, 3) := by decide +kernel
theorem dL_step_210 : decode cL_step 210 = .ok (.iconst 0, 1) := by decide +kernel
theorem dL_step_211 : decode cL_step 211 = .ok (.iadd, 1) := by decide +kernel
theorem dL_step_212 : decode cL_step 212 = .ok (.istore 15, 2) := by decide +kernel
theorem dL_step_214 : decode cL_step 214 = .ok (.iload 15, 2) := by decide +kernel
theorem dL_step_216 : decode cL_step 216 = .ok (.iload 11, 2) := by decide +kernel
theorem dL_step_218 : decode cL_step 218 = .ok (.if_icmp .eq 6, 3) := by decide +kernel
theorem dL_step_221 : decode cL_step 221 = .ok (.goto 13, 3) := by decide +kernel
theorem dL_step_224 : decode cL_step 224 = .ok (.aload 9, 2) := by decide +kernel
theorem dL_step_226 : decode cL_step 226 = .ok (.iload 10, 2) := by decide +kernel
theorem dL_step_228 : decode cL_step 228 = .ok (.iload 12, 2) := by decide +kernel
theorem dL_step_230 : decode cL_step 230 = .ok (.iastore, 1) := by decide +kernel
theorem dL_step_231 : decode cL_step 231 = .ok (.iinc 10 1, 3) := by decide +kernel
theorem dL_step_234 : decode cL_step 234 = .ok (.iinc 12 1, 3) := by decide +kernel
theorem dL_step_237 : decode cL_step 237 = .ok (.goto (-105), 3) := by decide +kernel
theorem dL_step_240 : decode cL_step 240 = .ok (.iinc 11 (-1), 3) := by decide +kernel
theorem dL_step_243 : decode cL_step 243 = .ok (.goto (-126), 3) := by decide +kernel
theorem dL_step_246 : decode cL_step 246 = .ok (.iconst 0, 1) := by decide +kernel
theorem dL_step_247 : decode cL_step 247 = .ok (.istore 11, 2) := by decide +kernel
theorem dL_step_249 : decode cL_step 249 = .ok (.iload 11, 2) := by decide +kernel
theorem dL_step_251 : decode cL_step 251 = .ok (.iload 10, 2) := by decide +kernel
theorem dL_step_253 : decode cL_step 253 = .ok (.if_icmp .ge 191, 3) := by decide +kernel
theorem dL_step_256 : decode cL_step 256 = .ok (.aload 9, 2) := by decide +kernel
theorem dL_step_258 : decode cL_step 258 = .ok (.iload 11, 2) := by decide +kernel
theorem dL_step_260 : decode cL_step 260 = .ok (.iaload, 1) := by decide +kernel
theorem dL_step_261 : decode cL_step 261 = .ok (.istore 12, 2) := by decide +kernel
theorem dL_step_263 : decode cL_step 263 = .ok (.aload_n 1, 1) := by decide +kernel
theorem dL_step_264 : decode cL_step 264 = .ok (.iload 12, 2) := by decide +kernel
theorem dL_step_266 : decode cL_step 266 = .ok (.iaload, 1) := by decide +kernel
theorem dL_step_267 : decode cL_step 267 = .ok (.aload 6, 2) := by decide +kernel
theorem dL_step_269 : decode cL_step 269 = .ok (.iconst 1, 1) := by decide +kernel
theorem dL_step_270 : decode cL_step 270 = .ok (.invokestatic 20, 3) := by decide +kernel
theorem dL_step_273 : decode cL_step 273 = .ok (.iconst 1, 1) := by decide +kernel
theorem dL_step_274 : decode cL_step 274 = .ok (.if_icmp .ne 7, 3) := by decide +kernel
theorem dL_step_277 : decode cL_step 277 = .ok (.iconst 1, 1) := by decide +kernel
theorem dL_step_278 : decode cL_step 278 = .ok (.goto 20, 3) := by decide +kernel
theorem dL_step_281 : decode cL_step 281 = .ok (.iload 12, 2) := by decide +kernel
theorem dL_step_283 : decode cL_step 283 = .ok (.aload_n 1, 1) := by decide +kernel
theorem dL_step_284 : decode cL_step 284 = .ok (.aload 4, 2) := by decide +kernel
theorem dL_step_286 : decode cL_step 286 = .ok (.invokestatic 24, 3) := by decide +kernel
theorem dL_step_289 : decode cL_step 289 = .ok (.iconst 2, 1) := by decide +kernel
theorem dL_step_290 : decode cL_step 290 = .ok (.if_icmp .ne 7, 3) := by decide +kernel
theorem dL_step_293 : decode cL_step 293 = .ok (.iconst 2, 1) := by decide +kernel
theorem dL_step_294 : decode cL_step 294 = .ok (.goto 4, 3) := by decide +kernel
theorem dL_step_297 : decode cL_step 297 = .ok (.iconst 3, 1) := by decide +kernel
theorem dL_step_298 : decode cL_step 298 = .ok (.istore 13, 2) := by decide +kernel
theorem dL_step_300 : decode cL_step 300 = .ok (.iload 13, 2) := by decide +kernel
theorem dL_step_302 : decode cL_step 302 = .ok (.iconst 3, 1) := by decide +kernel
theorem dL_step_303 : decode cL_step 303 = .ok (.if_icmp .ge 8, 3) := by decide +kernel
theorem dL_step_306 : decode cL_step 306 = .ok (.iload 13, 2) := by decide +kernel
theorem dL_step_308 : decode cL_step 308 = .ok (.goto 21, 3) := by decide +kernel
theorem dL_step_311 : decode cL_step 311 = .ok (.iload 12, 2) := by decide +kernel
theorem dL_step_313 : decode cL_step 313 = .ok (.aload_n 1, 1) := by decide +kernel
theorem dL_step_314 : decode cL_step 314 = .ok (.aload 4, 2) := by decide +kernel
theorem dL_step_316 : decode cL_step 316 = .ok (.invokestatic 24, 3) := by decide +kernel
theorem dL_step_319 : decode cL_step 319 = .ok (.iconst 1, 1) := by decide +kernel
theorem dL_step_320 : decode cL_step 320 = .ok (.if_icmp .ne 8, 3) := by decide +kernel
theorem dL_step_323 : decode cL_step 323 = .ok (.bipush 6, 2) := by decide +kernel
theorem dL_step_325 : decode cL_step 325 = .ok (.goto 4, 3) := by decide +kernel
theorem dL_step_328 : decode cL_step 328 = .ok (.iconst 2, 1) := by decide +kernel
theorem dL_step_329 : decode cL_step 329 = .ok (.istore 14, 2) := by decide +kernel
theorem dL_step_331 : decode cL_step 331 = .ok (.iload 14, 2) := by decide +kernel
theorem dL_step_333 : decode cL_step 333 = .ok (.iload 8, 2) := by decide +kernel
theorem dL_step_335 : decode cL_step 335 = .ok (.if_icmp .gt 103, 3) := by decide +kernel
theorem dL_step_338 : decode cL_step 338 = .ok (.iload 13, 2) := by decide +kernel
theorem dL_step_340 : decode cL_step 340 = .ok (.iconst 2, 1) := by decide +kernel
theorem dL_step_341 : decode cL_step 341 = .ok (.if_icmp .ne 24, 3) := by decide +kernel
theorem dL_step_344 : decode cL_step 344 = .ok (.aload_n 2, 1) := by decide +kernel
theorem dL_step_345 : decode cL_step 345 = .ok (.iload 12, 2) := by decide +kernel
theorem dL_step_347 : decode cL_step 347 = .ok (.iaload, 1) := by decide +kernel
theorem dL_step_348 : decode cL_step 348 = .ok (.sipush 1000, 3) := by decide +kernel
theorem dL_step_351 : decode cL_step 351 = .ok (.aload_n 1, 1) := by decide +kernel
theorem dL_step_352 : decode cL_step 352 = .ok (.iload 12, 2) := by decide +kernel
theorem dL_step_354 : decode cL_step 354 = .ok (.iaload, 1) := by decide +kernel
theorem dL_step_355 : decode cL_step 355 = .ok (.bipush 16, 2) := by decide +kernel
theorem dL_step_357 : decode cL_step 357 = .ok (.idiv, 1) := by decide +kernel
theorem dL_step_358 : decode cL_step 358 = .ok (.iadd, 1) := by decide +kernel
theorem dL_step_359 : decode cL_step 359 = .ok (.if_icmp .ne 6, 3) := by decide +kernel
theorem dL_step_362 : decode cL_step 362 = .ok (.goto 76, 3) := by decide +kernel
theorem dL_step_365 : decode cL_step 365 = .ok (.iload 8, 2) := by decide +kernel
theorem dL_step_367 : decode cL_step 367 = .ok (.iload 14, 2) := by decide +kernel
theorem dL_step_369 : decode cL_step 369 = .ok (.isub, 1) := by decide +kernel
theorem dL_step_370 : decode cL_step 370 = .ok (.istore 8, 2) := by decide +kernel
theorem dL_step_372 : decode cL_step 372 = .ok (.aload_n 2, 1) := by decide +kernel
theorem dL_step_373 : decode cL_step 373 = .ok (.iload 12, 2) := by decide +kernel
theorem dL_step_375 : decode cL_step 375 = .ok (.iload 13, 2) := by decide +kernel
theorem dL_step_377 : decode cL_step 377 = .ok (.iconst 2, 1) := by decide +kernel
theorem dL_step_378 : decode cL_step 378 = .ok (.if_icmp .ne 17, 3) := by decide +kernel
theorem dL_step_381 : decode cL_step 381 = .ok (.sipush 1000, 3) := by decide +kernel
theorem dL_step_384 : decode cL_step 384 = .ok (.aload_n 1, 1) := by decide +kernel
theorem dL_step_385 : decode cL_step 385 = .ok (.iload 12, 2) := by decide +kernel
theorem dL_step_387 : decode cL_step 387 = .ok (.iaload, 1) := by decide +kernel
theorem dL_step_388 : decode cL_step 388 = .ok (.bipush 16, 2) := by decide +kernel
theorem dL_step_390 : decode cL_step 390 = .ok (.idiv, 1) := by decide +kernel
theorem dL_step_391 : decode cL_step 391 = .ok (.iadd, 1) := by decide +kernel
theorem dL_step_392 : decode cL_step 392 = .ok (.goto 7, 3) := by decide +kernel
theorem dL_step_395 : decode cL_step 395 = .ok (.aload_n 1, 1) := by decide +kernel
theorem dL_step_396 : decode cL_step 396 = .ok (.iload 12, 2) := by decide +kernel
theorem dL_step_398 : decode cL_step 398 = .ok (.iaload, 1) := by decide +kernel
theorem dL_step_399 : decode cL_step 399 = .ok (.iastore, 1) := by decide +kernel
theorem dL_step_400 : decode cL_step 400 = .ok (.iload 13, 2) := by decide +kernel
theorem dL_step_402 : decode cL_step 402 = .ok (.iconst 2, 1) := by decide +kernel
theorem dL_step_403 : decode cL_step 403 = .ok (.if_icmp .eq 14, 3) := by decide +kernel
theorem dL_step_406 : decode cL_step 406 = .ok (.aload_n 1, 1) := by decide +kernel
theorem dL_step_407 : decode cL_step 407 = .ok (.iload 12, 2) := by decide +kernel
theorem dL_step_409 : decode cL_step 409 = .ok (.iaload, 1) := by decide +kernel
theorem dL_step_410 : decode cL_step 410 = .ok (.aload 6, 2) := by decide +kernel
theorem dL_step_412 : decode cL_step 412 = .ok (.iconst 0, 1) := by decide +kernel
theorem dL_step_413 : decode cL_step 413 = .ok (.invokestatic 20, 3) := by decide +kernel
theorem dL_step_416 : decode cL_step 416 = .ok (.pop, 1) := by decide +kernel
theorem dL_step_417 : decode cL_step 417 = .ok (.iload 12, 2) := by decide +kernel
theorem dL_step_419 : decode cL_step 419 = .ok (.aload_n 1, 1) := by decide +kernel
theorem dL_step_420 : decode cL_step 420 = .ok (.aload_n 2, 1) := by decide +kernel
theorem dL_step_421 : decode cL_step 421 = .ok (.aload_n 3, 1) := by decide +kernel
theorem dL_step_422 : decode cL_step 422 = .ok (.aload 7, 2) := by decide +kernel
theorem dL_step_424 : decode cL_step 424 = .ok (.invokestatic 10, 3) := by decide +kernel
theorem dL_step_427 : decode cL_step 427 = .ok (.aload 7, 2) := by decide +kernel
theorem dL_step_429 : decode cL_step 429 = .ok (.iconst 4, 1) := by decide +kernel
theorem dL_step_430 : decode cL_step 430 = .ok (.iload 13, 2) := by decide +kernel
theorem dL_step_432 : decode cL_step 432 = .ok (.iadd, 1) := by decide +kernel
theorem dL_step_433 : decode cL_step 433 = .ok (.dup2, 1) := by decide +kernel
theorem dL_step_434 : decode cL_step 434 = .ok (.iaload, 1) := by decide +kernel
theorem dL_step_435 : decode cL_step 435 = .ok (.iconst 1, 1) := by decide +kernel
theorem dL_step_436 : decode cL_step 436 = .ok (.iadd, 1) := by decide +kernel
theorem dL_step_437 : decode cL_step 437 = .ok (.iastore, 1) := by decide +kernel
theorem dL_step_438 : decode cL_step 438 = .ok (.iinc 11 1, 3) := by decide +kernel
theorem dL_step_441 : decode cL_step 441 = .ok (.goto (-192), 3) := by decide +kernel
theorem dL_step_444 : decode cL_step 444 = .ok (.aload 7, 2) := by decide +kernel
theorem dL_step_446 : decode cL_step 446 = .ok (.iconst 0, 1) := by decide +kernel
theorem dL_step_447 : decode cL_step 447 = .ok (.dup2, 1) := by decide +kernel
theorem dL_step_448 : decode cL_step 448 = .ok (.iaload, 1) := by decide +kernel
theorem dL_step_449 : decode cL_step 449 = .ok (.iconst 1, 1) := by decide +kernel
theorem dL_step_450 : decode cL_step 450 = .ok (.iadd, 1) := by decide +kernel
theorem dL_step_451 : decode cL_step 451 = .ok (.iastore, 1) := by decide +kernel
theorem dL_step_452 : decode cL_step 452 = .ok (.iconst 0, 1) := by decide +kernel
theorem dL_step_453 : decode cL_step 453 = .ok (.istore 11, 2) := by decide +kernel
theorem dL_step_455 : decode cL_step 455 = .ok (.iload 11, 2) := by decide +kernel
theorem dL_step_457 : decode cL_step 457 = .ok (.bipush 48, 2) := by decide +kernel
theorem dL_step_459 : decode cL_step 459 = .ok (.if_icmp .ge 25, 3) := by decide +kernel
theorem dL_step_462 : decode cL_step 462 = .ok (.aload 4, 2) := by decide +kernel
theorem dL_step_464 : decode cL_step 464 = .ok (.iload 11, 2) := by decide +kernel
theorem dL_step_466 : decode cL_step 466 = .ok (.aload 4, 2) := by decide +kernel
theorem dL_step_468 : decode cL_step 468 = .ok (.iload 11, 2) := by decide +kernel
theorem dL_step_470 : decode cL_step 470 = .ok (.iaload, 1) := by decide +kernel
theorem dL_step_471 : decode cL_step 471 = .ok (.sipush 128, 3) := by decide +kernel
theorem dL_step_474 : decode cL_step 474 = .ok (.irem, 1) := by decide +kernel
theorem dL_step_475 : decode cL_step 475 = .ok (.iconst 2, 1) := by decide +kernel
theorem dL_step_476 : decode cL_step 476 = .ok (.imul, 1) := by decide +kernel
theorem dL_step_477 : decode cL_step 477 = .ok (.iastore, 1) := by decide +kernel
theorem dL_step_478 : decode cL_step 478 = .ok (.iinc 11 1, 3) := by decide +kernel
theorem dL_step_481 : decode cL_step 481 = .ok (.goto (-26), 3) := by decide +kernel
theorem dL_step_484 : decode cL_step 484 = .ok (.iload_n 0, 1) := by decide +kernel
theorem dL_step_485 : decode cL_step 485 = .ok (.iload 8, 2) := by decide +kernel
theorem dL_step_487 : decode cL_step 487 = .ok (.isub, 1) := by decide +kernel
theorem dL_step_488 : decode cL_step 488 = .ok (.ireturn, 1) := by decide +kernel
theorem dL_refused_0 : decode cL_refused 0 = .ok (.iload_n 1, 1) := by decide +kernel
theorem dL_refused_1 : decode cL_refused 1 = .ok (.ifCond .ne 11, 3) := by decide +kernel
theorem dL_refused_4 : decode cL_refused 4 = .ok (.aload_n 0, 1) := by decide +kernel
theorem dL_refused_5 : decode cL_refused 5 = .ok (.iload_n 2, 1) := by decide +kernel
theorem dL_refused_6 : decode cL_refused 6 = .ok (.invokevirtual 28, 3) := by decide +kernel
theorem dL_refused_9 : decode cL_refused 9 = .ok (.goto 27, 3) := by decide +kernel
theorem dL_refused_12 : decode cL_refused 12 = .ok (.iload_n 1, 1) := by decide +kernel
theorem dL_refused_13 : decode cL_refused 13 = .ok (.iconst 1, 1) := by decide +kernel
theorem dL_refused_14 : decode cL_refused 14 = .ok (.if_icmp .ne 12, 3) := by decide +kernel
theorem dL_refused_17 : decode cL_refused 17 = .ok (.aload_n 0, 1) := by decide +kernel
theorem dL_refused_18 : decode cL_refused 18 = .ok (.iload_n 2, 1) := by decide +kernel
theorem dL_refused_19 : decode cL_refused 19 = .ok (.iload_n 3, 1) := by decide +kernel
theorem dL_refused_20 : decode cL_refused 20 = .ok (.invokevirtual 34, 3) := by decide +kernel
theorem dL_refused_23 : decode cL_refused 23 = .ok (.goto 13, 3) := by decide +kernel
theorem dL_refused_26 : decode cL_refused 26 = .ok (.aload_n 0, 1) := by decide +kernel
theorem dL_refused_27 : decode cL_refused 27 = .ok (.iload_n 2, 1) := by decide +kernel
theorem dL_refused_28 : decode cL_refused 28 = .ok (.iload_n 3, 1) := by decide +kernel
theorem dL_refused_29 : decode cL_refused 29 = .ok (.iconst 1, 1) := by decide +kernel
theorem dL_refused_30 : decode cL_refused 30 = .ok (.iconst 1, 1) := by decide +kernel
theorem dL_refused_31 : decode cL_refused 31 = .ok (.iload_n 2, 1) := by decide +kernel
theorem dL_refused_32 : decode cL_refused 32 = .ok (.iload_n 3, 1) := by decide +kernel
theorem dL_refused_33 : decode cL_refused 33 = .ok (.invokevirtual 38, 3) := by decide +kernel
theorem dL_refused_36 : decode cL_refused 36 = .ok (.iconst 0, 1) := by decide +kernel
theorem dL_refused_37 : decode cL_refused 37 = .ok (.imul, 1) := by decide +kernel
theorem dL_refused_38 : decode cL_refused 38 = .ok (.ireturn, 1) := by decide +kernel
theorem dL_refused_39 : decode cL_refused 39 = .ok (.astore 4, 2) := by decide +kernel
theorem dL_refused_41 : decode cL_refused 41 = .ok (.iconst 1, 1) := by decide +kernel
theorem dL_refused_42 : decode cL_refused 42 = .ok (.ireturn, 1) := by decide +kernel
theorem dL_refused_43 : decode cL_refused 43 = .ok (.astore 4, 2) := by decide +kernel
theorem dL_refused_45 : decode cL_refused 45 = .ok (.iconst 2, 1) := by decide +kernel
theorem dL_refused_46 : decode cL_refused 46 = .ok (.ireturn, 1) := by decide +kernel
theorem dL_same_0 : decode cL_same 0 = .ok (.lconst 0, 1) := by decide +kernel
theorem dL_same_1 : decode cL_same 1 = .ok (.lstore 7, 2) := by decide +kernel
theorem dL_same_3 : decode cL_same 3 = .ok (.iconst 0, 1) := by decide +kernel
theorem dL_same_4 : decode cL_same 4 = .ok (.istore 9, 2) := by decide +kernel
theorem dL_same_6 : decode cL_same 6 = .ok (.iconst 0, 1) := by decide +kernel
theorem dL_same_7 : decode cL_same 7 = .ok (.istore 10, 2) := by decide +kernel
theorem dL_same_9 : decode cL_same 9 = .ok (.iconst 0, 1) := by decide +kernel
theorem dL_same_10 : decode cL_same 10 = .ok (.istore 11, 2) := by decide +kernel
theorem dL_same_12 : decode cL_same 12 = .ok (.iload 11, 2) := by decide +kernel
theorem dL_same_14 : decode cL_same 14 = .ok (.bipush 8, 2) := by decide +kernel
theorem dL_same_16 : decode cL_same 16 = .ok (.if_icmp .ge 17, 3) := by decide +kernel
theorem dL_same_19 : decode cL_same 19 = .ok (.aload 5, 2) := by decide +kernel
theorem dL_same_21 : decode cL_same 21 = .ok (.iload 11, 2) := by decide +kernel
theorem dL_same_23 : decode cL_same 23 = .ok (.iaload, 1) := by decide +kernel
theorem dL_same_24 : decode cL_same 24 = .ok (.ifCond .le 9, 3) := by decide +kernel
theorem dL_same_27 : decode cL_same 27 = .ok (.iinc 11 1, 3) := by decide +kernel
theorem dL_same_30 : decode cL_same 30 = .ok (.goto (-18), 3) := by decide +kernel
theorem dL_same_33 : decode cL_same 33 = .ok (.iconst 0, 1) := by decide +kernel
theorem dL_same_34 : decode cL_same 34 = .ok (.istore 12, 2) := by decide +kernel
theorem dL_same_36 : decode cL_same 36 = .ok (.iload 12, 2) := by decide +kernel
theorem dL_same_38 : decode cL_same 38 = .ok (.bipush 48, 2) := by decide +kernel
theorem dL_same_40 : decode cL_same 40 = .ok (.if_icmp .ge 152, 3) := by decide +kernel
theorem dL_same_43 : decode cL_same 43 = .ok (.lload 7, 2) := by decide +kernel
theorem dL_same_45 : decode cL_same 45 = .ok (.aload_n 3, 1) := by decide +kernel
theorem dL_same_46 : decode cL_same 46 = .ok (.iload 12, 2) := by decide +kernel
theorem dL_same_48 : decode cL_same 48 = .ok (.iaload, 1) := by decide +kernel
theorem dL_same_49 : decode cL_same 49 = .ok (.ifCond .ge 7, 3) := by decide +kernel
theorem dL_same_52 : decode cL_same 52 = .ok (.lconst 0, 1) := by decide +kernel
theorem dL_same_53 : decode cL_same 53 = .ok (.goto 7, 3) := by decide +kernel
theorem dL_same_56 : decode cL_same 56 = .ok (.lconst 1, 1) := by decide +kernel
theorem dL_same_57 : decode cL_same 57 = .ok (.iload 12, 2) := by decide +kernel
theorem dL_same_59 : decode cL_same 59 = .ok (.lshl, 1) := by decide +kernel
theorem dL_same_60 : decode cL_same 60 = .ok (.lor, 1) := by decide +kernel
theorem dL_same_61 : decode cL_same 61 = .ok (.lstore 7, 2) := by decide +kernel
theorem dL_same_63 : decode cL_same 63 = .ok (.iload 9, 2) := by decide +kernel
theorem dL_same_65 : decode cL_same 65 = .ok (.aload_n 2, 1) := by decide +kernel
theorem dL_same_66 : decode cL_same 66 = .ok (.iload 12, 2) := by decide +kernel
theorem dL_same_68 : decode cL_same 68 = .ok (.iaload, 1) := by decide +kernel
theorem dL_same_69 : decode cL_same 69 = .ok (.sipush 1000, 3) := by decide +kernel
theorem dL_same_72 : decode cL_same 72 = .ok (.idiv, 1) := by decide +kernel
theorem dL_same_73 : decode cL_same 73 = .ok (.iadd, 1) := by decide +kernel
theorem dL_same_74 : decode cL_same 74 = .ok (.istore 9, 2) := by decide +kernel
theorem dL_same_76 : decode cL_same 76 = .ok (.iload 10, 2) := by decide +kernel
theorem dL_same_78 : decode cL_same 78 = .ok (.aload_n 1, 1) := by decide +kernel
theorem dL_same_79 : decode cL_same 79 = .ok (.iload 12, 2) := by decide +kernel
theorem dL_same_81 : decode cL_same 81 = .ok (.iaload, 1) := by decide +kernel
theorem dL_same_82 : decode cL_same 82 = .ok (.bipush 64, 2) := by decide +kernel
theorem dL_same_84 : decode cL_same 84 = .ok (.if_icmp .ge 7, 3) := by decide +kernel
theorem dL_same_87 : decode cL_same 87 = .ok (.iconst 2, 1) := by decide +kernel
theorem dL_same_88 : decode cL_same 88 = .ok (.goto 5, 3) := by decide +kernel
theorem dL_same_91 : decode cL_same 91 = .ok (.bipush 6, 2) := by decide +kernel
theorem dL_same_93 : decode cL_same 93 = .ok (.iadd, 1) := by decide +kernel
theorem dL_same_94 : decode cL_same 94 = .ok (.istore 10, 2) := by decide +kernel
theorem dL_same_96 : decode cL_same 96 = .ok (.aload_n 0, 1) := by decide +kernel
theorem dL_same_97 : decode cL_same 97 = .ok (.iload 12, 2) := by decide +kernel
theorem dL_same_99 : decode cL_same 99 = .ok (.bipush 8, 2) := by decide +kernel
theorem dL_same_101 : decode cL_same 101 = .ok (.irem, 1) := by decide +kernel
theorem dL_same_102 : decode cL_same 102 = .ok (.iload 12, 2) := by decide +kernel
theorem dL_same_104 : decode cL_same 104 = .ok (.bipush 8, 2) := by decide +kernel
theorem dL_same_106 : decode cL_same 106 = .ok (.idiv, 1) := by decide +kernel
theorem dL_same_107 : decode cL_same 107 = .ok (.invokevirtual 34, 3) := by decide +kernel
theorem dL_same_110 : decode cL_same 110 = .ok (.aload_n 1, 1) := by decide +kernel
theorem dL_same_111 : decode cL_same 111 = .ok (.iload 12, 2) := by decide +kernel
theorem dL_same_113 : decode cL_same 113 = .ok (.iaload, 1) := by decide +kernel
theorem dL_same_114 : decode cL_same 114 = .ok (.if_icmp .ne 70, 3) := by decide +kernel
theorem dL_same_117 : decode cL_same 117 = .ok (.aload_n 0, 1) := by decide +kernel
theorem dL_same_118 : decode cL_same 118 = .ok (.iload 12, 2) := by decide +kernel
theorem dL_same_120 : decode cL_same 120 = .ok (.bipush 8, 2) := by decide +kernel
theorem dL_same_122 : decode cL_same 122 = .ok (.irem, 1) := by decide +kernel
theorem dL_same_123 : decode cL_same 123 = .ok (.iload 12, 2) := by decide +kernel
theorem dL_same_125 : decode cL_same 125 = .ok (.bipush 8, 2) := by decide +kernel
theorem dL_same_127 : decode cL_same 127 = .ok (.idiv, 1) := by decide +kernel
theorem dL_same_128 : decode cL_same 128 = .ok (.invokevirtual 46, 3) := by decide +kernel
theorem dL_same_131 : decode cL_same 131 = .ok (.aload_n 2, 1) := by decide +kernel
theorem dL_same_132 : decode cL_same 132 = .ok (.iload 12, 2) := by decide +kernel
theorem dL_same_134 : decode cL_same 134 = .ok (.iaload, 1) := by decide +kernel
theorem dL_same_135 : decode cL_same 135 = .ok (.if_icmp .ne 49, 3) := by decide +kernel
theorem dL_same_138 : decode cL_same 138 = .ok (.aload_n 0, 1) := by decide +kernel
theorem dL_same_139 : decode cL_same 139 = .ok (.iload 12, 2) := by decide +kernel
theorem dL_same_141 : decode cL_same 141 = .ok (.bipush 8, 2) := by decide +kernel
theorem dL_same_143 : decode cL_same 143 = .ok (.irem, 1) := by decide +kernel
theorem dL_same_144 : decode cL_same 144 = .ok (.iload 12, 2) := by decide +kernel
theorem dL_same_146 : decode cL_same 146 = .ok (.bipush 8, 2) := by decide +kernel
theorem dL_same_148 : decode cL_same 148 = .ok (.idiv, 1) := by decide +kernel
theorem dL_same_149 : decode cL_same 149 = .ok (.invokevirtual 49, 3) := by decide +kernel
theorem dL_same_152 : decode cL_same 152 = .ok (.aload_n 3, 1) := by decide +kernel
theorem dL_same_153 : decode cL_same 153 = .ok (.iload 12, 2) := by decide +kernel
theorem dL_same_155 : decode cL_same 155 = .ok (.iaload, 1) := by decide +kernel
theorem dL_same_156 : decode cL_same 156 = .ok (.if_icmp .ne 28, 3) := by decide +kernel
theorem dL_same_159 : decode cL_same 159 = .ok (.aload_n 0, 1) := by decide +kernel
theorem dL_same_160 : decode cL_same 160 = .ok (.iload 12, 2) := by decide +kernel
theorem dL_same_162 : decode cL_same 162 = .ok (.bipush 8, 2) := by decide +kernel
theorem dL_same_164 : decode cL_same 164 = .ok (.irem, 1) := by decide +kernel
theorem dL_same_165 : decode cL_same 165 = .ok (.iload 12, 2) := by decide +kernel
theorem dL_same_167 : decode cL_same 167 = .ok (.bipush 8, 2) := by decide +kernel
theorem dL_same_169 : decode cL_same 169 = .ok (.idiv, 1) := by decide +kernel
theorem dL_same_170 : decode cL_same 170 = .ok (.invokevirtual 52, 3) := by decide +kernel
theorem dL_same_173 : decode cL_same 173 = .ok (.iload 12, 2) := by decide +kernel
theorem dL_same_175 : decode cL_same 175 = .ok (.aload_n 1, 1) := by decide +kernel
theorem dL_same_176 : decode cL_same 176 = .ok (.aload 4, 2) := by decide +kernel
theorem dL_same_178 : decode cL_same 178 = .ok (.invokestatic 24, 3) := by decide +kernel
theorem dL_same_181 : decode cL_same 181 = .ok (.if_icmp .eq 5, 3) := by decide +kernel
theorem dL_same_184 : decode cL_same 184 = .ok (.iconst 0, 1) := by decide +kernel
theorem dL_same_185 : decode cL_same 185 = .ok (.ireturn, 1) := by decide +kernel
theorem dL_same_186 : decode cL_same 186 = .ok (.iinc 12 1, 3) := by decide +kernel
theorem dL_same_189 : decode cL_same 189 = .ok (.goto (-153), 3) := by decide +kernel
theorem dL_same_192 : decode cL_same 192 = .ok (.iconst 0, 1) := by decide +kernel
theorem dL_same_193 : decode cL_same 193 = .ok (.istore 12, 2) := by decide +kernel
theorem dL_same_195 : decode cL_same 195 = .ok (.iload 12, 2) := by decide +kernel
theorem dL_same_197 : decode cL_same 197 = .ok (.iload 11, 2) := by decide +kernel
theorem dL_same_199 : decode cL_same 199 = .ok (.if_icmp .ge 27, 3) := by decide +kernel
theorem dL_same_202 : decode cL_same 202 = .ok (.aload_n 0, 1) := by decide +kernel
theorem dL_same_203 : decode cL_same 203 = .ok (.iload 12, 2) := by decide +kernel
theorem dL_same_205 : decode cL_same 205 = .ok (.invokevirtual 28, 3) := by decide +kernel
theorem dL_same_208 : decode cL_same 208 = .ok (.aload 5, 2) := by decide +kernel
theorem dL_same_210 : decode cL_same 210 = .ok (.iload 12, 2) := by decide +kernel
theorem dL_same_212 : decode cL_same 212 = .ok (.iaload, 1) := by decide +kernel
theorem dL_same_213 : decode cL_same 213 = .ok (.iconst 1, 1) := by decide +kernel
theorem dL_same_214 : decode cL_same 214 = .ok (.isub, 1) := by decide +kernel
theorem dL_same_215 : decode cL_same 215 = .ok (.if_icmp .eq 5, 3) := by decide +kernel
theorem dL_same_218 : decode cL_same 218 = .ok (.iconst 0, 1) := by decide +kernel
theorem dL_same_219 : decode cL_same 219 = .ok (.ireturn, 1) := by decide +kernel
theorem dL_same_220 : decode cL_same 220 = .ok (.iinc 12 1, 3) := by decide +kernel
theorem dL_same_223 : decode cL_same 223 = .ok (.goto (-28), 3) := by decide +kernel
theorem dL_same_226 : decode cL_same 226 = .ok (.iconst 0, 1) := by decide +kernel
theorem dL_same_227 : decode cL_same 227 = .ok (.istore 12, 2) := by decide +kernel
theorem dL_same_229 : decode cL_same 229 = .ok (.iload 12, 2) := by decide +kernel
theorem dL_same_231 : decode cL_same 231 = .ok (.iconst 4, 1) := by decide +kernel
theorem dL_same_232 : decode cL_same 232 = .ok (.if_icmp .ge 27, 3) := by decide +kernel
theorem dL_same_235 : decode cL_same 235 = .ok (.aload_n 0, 1) := by decide +kernel
theorem dL_same_236 : decode cL_same 236 = .ok (.iload 12, 2) := by decide +kernel
theorem dL_same_238 : decode cL_same 238 = .ok (.invokevirtual 54, 3) := by decide +kernel
theorem dL_same_241 : decode cL_same 241 = .ok (.aload 6, 2) := by decide +kernel
theorem dL_same_243 : decode cL_same 243 = .ok (.iconst 4, 1) := by decide +kernel
theorem dL_same_244 : decode cL_same 244 = .ok (.iload 12, 2) := by decide +kernel
theorem dL_same_246 : decode cL_same 246 = .ok (.iadd, 1) := by decide +kernel
theorem dL_same_247 : decode cL_same 247 = .ok (.iaload, 1) := by decide +kernel
theorem dL_same_248 : decode cL_same 248 = .ok (.if_icmp .eq 5, 3) := by decide +kernel
theorem dL_same_251 : decode cL_same 251 = .ok (.iconst 0, 1) := by decide +kernel
theorem dL_same_252 : decode cL_same 252 = .ok (.ireturn, 1) := by decide +kernel
theorem dL_same_253 : decode cL_same 253 = .ok (.iinc 12 1, 3) := by decide +kernel
theorem dL_same_256 : decode cL_same 256 = .ok (.goto (-27), 3) := by decide +kernel
theorem dL_same_259 : decode cL_same 259 = .ok (.aload_n 0, 1) := by decide +kernel
theorem dL_same_260 : decode cL_same 260 = .ok (.invokevirtual 57, 3) := by decide +kernel
theorem dL_same_263 : decode cL_same 263 = .ok (.lload 7, 2) := by decide +kernel
theorem dL_same_265 : decode cL_same 265 = .ok (.lcmp, 1) := by decide +kernel
theorem dL_same_266 : decode cL_same 266 = .ok (.ifCond .ne 79, 3) := by decide +kernel
theorem dL_same_269 : decode cL_same 269 = .ok (.aload_n 0, 1) := by decide +kernel
theorem dL_same_270 : decode cL_same 270 = .ok (.invokevirtual 61, 3) := by decide +kernel
theorem dL_same_273 : decode cL_same 273 = .ok (.iload 9, 2) := by decide +kernel
theorem dL_same_275 : decode cL_same 275 = .ok (.if_icmp .ne 70, 3) := by decide +kernel
theorem dL_same_278 : decode cL_same 278 = .ok (.aload_n 0, 1) := by decide +kernel
theorem dL_same_279 : decode cL_same 279 = .ok (.invokevirtual 65, 3) := by decide +kernel
theorem dL_same_282 : decode cL_same 282 = .ok (.iload 10, 2) := by decide +kernel
theorem dL_same_284 : decode cL_same 284 = .ok (.if_icmp .ne 61, 3) := by decide +kernel
theorem dL_same_287 : decode cL_same 287 = .ok (.aload_n 0, 1) := by decide +kernel
theorem dL_same_288 : decode cL_same 288 = .ok (.invokevirtual 68, 3) := by decide +kernel
theorem dL_same_291 : decode cL_same 291 = .ok (.iload 11, 2) := by decide +kernel
theorem dL_same_293 : decode cL_same 293 = .ok (.if_icmp .ne 52, 3) := by decide +kernel
theorem dL_same_296 : decode cL_same 296 = .ok (.aload_n 0, 1) := by decide +kernel
theorem dL_same_297 : decode cL_same 297 = .ok (.iconst 0, 1) := by decide +kernel
theorem dL_same_298 : decode cL_same 298 = .ok (.iload 11, 2) := by decide +kernel
theorem dL_same_300 : decode cL_same 300 = .ok (.iconst 0, 1) := by decide +kernel
theorem dL_same_301 : decode cL_same 301 = .ok (.invokestatic 71, 3) := by decide +kernel
theorem dL_same_304 : decode cL_same 304 = .ok (.iconst 1, 1) := by decide +kernel
theorem dL_same_305 : decode cL_same 305 = .ok (.if_icmp .ne 40, 3) := by decide +kernel
theorem dL_same_308 : decode cL_same 308 = .ok (.aload_n 0, 1) := by decide +kernel
theorem dL_same_309 : decode cL_same 309 = .ok (.invokevirtual 75, 3) := by decide +kernel
theorem dL_same_312 : decode cL_same 312 = .ok (.aload 6, 2) := by decide +kernel
theorem dL_same_314 : decode cL_same 314 = .ok (.iconst 2, 1) := by decide +kernel
theorem dL_same_315 : decode cL_same 315 = .ok (.iaload, 1) := by decide +kernel
theorem dL_same_316 : decode cL_same 316 = .ok (.if_icmp .ne 29, 3) := by decide +kernel
theorem dL_same_319 : decode cL_same 319 = .ok (.aload_n 0, 1) := by decide +kernel
theorem dL_same_320 : decode cL_same 320 = .ok (.invokevirtual 78, 3) := by decide +kernel
theorem dL_same_323 : decode cL_same 323 = .ok (.aload 6, 2) := by decide +kernel
theorem dL_same_325 : decode cL_same 325 = .ok (.iconst 0, 1) := by decide +kernel
theorem dL_same_326 : decode cL_same 326 = .ok (.iaload, 1) := by decide +kernel
theorem dL_same_327 : decode cL_same 327 = .ok (.if_icmp .ne 18, 3) := by decide +kernel
theorem dL_same_330 : decode cL_same 330 = .ok (.aload_n 0, 1) := by decide +kernel
theorem dL_same_331 : decode cL_same 331 = .ok (.invokevirtual 81, 3) := by decide +kernel
theorem dL_same_334 : decode cL_same 334 = .ok (.aload 6, 2) := by decide +kernel
theorem dL_same_336 : decode cL_same 336 = .ok (.iconst 3, 1) := by decide +kernel
theorem dL_same_337 : decode cL_same 337 = .ok (.iaload, 1) := by decide +kernel
theorem dL_same_338 : decode cL_same 338 = .ok (.if_icmp .ne 7, 3) := by decide +kernel
theorem dL_same_341 : decode cL_same 341 = .ok (.iconst 1, 1) := by decide +kernel
theorem dL_same_342 : decode cL_same 342 = .ok (.goto 4, 3) := by decide +kernel
theorem dL_same_345 : decode cL_same 345 = .ok (.iconst 0, 1) := by decide +kernel
theorem dL_same_346 : decode cL_same 346 = .ok (.ireturn, 1) := by decide +kernel
end
section
/-! the law's rows: near, far, the times, the changes, the moves, the known pictures, the numbers -/
abbrev LV : Type := ((((Nat → Int32) × (Nat → Int32)) × ((Nat → Int32) × (Nat → Int32))) × (((Nat → Int32) × (Nat → Int32)) × (Nat → Int32)))
def LV.n (v : LV) : Nat → Int32 := v.1.1.1
def LV.f (v : LV) : Nat → Int32 := v.1.1.2
def LV.u (v : LV) : Nat → Int32 := v.1.2.1
def LV.h (v : LV) : Nat → Int32 := v.1.2.2
def LV.w (v : LV) : Nat → Int32 := v.2.1.1
def LV.kn (v : LV) : Nat → Int32 := v.2.1.2
def LV.gg (v : LV) : Nat → Int32 := v.2.2
def LV.mk9 (n : Nat → Int32) (f : Nat → Int32) (u : Nat → Int32) (h : Nat → Int32) (w : Nat → Int32) (kn : Nat → Int32) (gg : Nat → Int32) : LV := (((n, f), (u, h)), ((w, kn), gg))
def LV.nS (v : LV) (x : Nat → Int32) : LV := LV.mk9 x v.f v.u v.h v.w v.kn v.gg
def LV.fS (v : LV) (x : Nat → Int32) : LV := LV.mk9 v.n x v.u v.h v.w v.kn v.gg
def LV.uS (v : LV) (x : Nat → Int32) : LV := LV.mk9 v.n v.f x v.h v.w v.kn v.gg
def LV.hS (v : LV) (x : Nat → Int32) : LV := LV.mk9 v.n v.f v.u x v.w v.kn v.gg
def LV.wS (v : LV) (x : Nat → Int32) : LV := LV.mk9 v.n v.f v.u v.h x v.kn v.gg
def LV.knS (v : LV) (x : Nat → Int32) : LV := LV.mk9 v.n v.f v.u v.h v.w x v.gg
def LV.ggS (v : LV) (x : Nat → Int32) : LV := LV.mk9 v.n v.f v.u v.h v.w v.kn x
abbrev RW (g : GG) (r : Nat → Nat) (x : LV) : va_W := [(r 0, .inl (g.2 0, 48, .inl x.n)), (r 1, .inl (g.2 0, 48, .inl x.f)), (r 2, .inl (g.2 0, 48, .inl x.u)), (r 3, .inl (g.2 0, 48, .inl x.h)), (r 4, .inl (g.2 0, 30, .inl x.w)), (r 5, .inl (g.2 0, 9, .inl x.kn)), (r 6, .inl (g.2 0, 8, .inl x.gg))]
/-- low bits of v, as a number below n -/
def lowI (v n : Int32) : Int32 := (v &&& 2147483647) - (v &&& 2147483647) / n * n
/-- the ones among the k low bits of b -/
def popB : Nat → Nat → Nat
  | 0, _ => 0
  | k + 1, b => b % 2 + popB k (b / 2)
theorem pop_s : ∀ b : Fin 256, popB 8 b.val = b.val % 2 + popB 8 (b.val / 2) := by decide +kernel
theorem pop_0 : popB 8 0 = 0 := by decide +kernel
theorem pop_bc : ∀ b : Fin 256, bcI (nI b.val) = nI (popB 8 b.val) := by decide +kernel
theorem pop_8 : ∀ b : Fin 256, popB 8 b.val ≤ 8 := by decide +kernel
theorem q64 : ∀ b : Fin 256, (nI b.val / 64 = 0 ↔ nI b.val < 64) := by decide +kernel
/-- the kind of a tile -/
def kdL (n h : Nat → Int32) (t : Nat) : Int32 := if bcI (h t) < 4 then (if n t < 64 then 0 else 1) else 2
def lkV (x : LV) (t : Nat) : LV := if x.n t = x.f t then x.uS (upd x.u t (-1)) else if 0 ≤ x.u t then x else x.uS (upd x.u t (x.gg 0))
def drH (x : LV) (t : Nat) (q : Int32) : LV := if x.n t = q then x else x.hS (upd x.h t (x.h t ||| 1))
def drN (x : LV) (t : Nat) (q : Int32) : LV := (drH x t q).nS (upd (drH x t q).n t q)
def drV (x : LV) (t : Nat) (q : Int32) : LV := lkV (drN x t q) t
theorem upd_id (f : Nat → Int32) (k : Nat) : upd f k (f k) = f := by
  funext j
  by_cases hj : j = k
  · subst hj
    exact pk_us
  · exact pk_un hj
/-- the source and the goal of the z-th tile of a block -/
def sT (m : Nat → Nat) (z : Nat) : Nat := 8 * (m 1 + z / m 2) + m 0 + z % m 2
def dT (m : Nat → Nat) (z : Nat) : Nat := 8 * (m 5 + z / m 2) + m 4 + z % m 2
def srcN (m : Nat → Nat) : Nat := 8 * m 1 + m 0
def dstN (m : Nat → Nat) : Nat := 8 * m 5 + m 4
def shA9 (m : Nat → Nat) (i : Nat) : Nat := if dstN m ≤ srcN m then i else m 2 * m 3 - 1 - i
def shN (m : Nat → Nat) (scr : Nat → Int32) : Nat → (Nat → Int32)
  | 0 => scr
  | i + 1 => upd (shN m scr i) (dT m (shA9 m i)) (shN m scr i (sT m (shA9 m i)))
abbrev HW (g : GG) (q r : Nat) (scr w : Nat → Int32) : va_W := [(q, .inl (g.2 0, 48, .inl scr)), (r, .inl (g.2 0, 30, .inl w))]
theorem blk_dm {m : Nat → Nat} (h1 : 1 ≤ m 2) {z : Nat} (hz : z < m 2 * m 3) : z / m 2 < m 3 ∧ z % m 2 < m 2 := by
  refine ⟨(Nat.div_lt_iff_lt_mul h1).mpr (by rw [Nat.mul_comm]; exact hz), Nat.mod_lt _ h1⟩
theorem sT_lt {m : Nat → Nat} (hm : MOK m) (h1 : 1 ≤ m 2) {z : Nat} (hz : z < m 2 * m 3) : sT m z < 48 := by
  obtain ⟨k1, k2⟩ := blk_dm h1 hz
  obtain ⟨a1, a2, a3, a4⟩ := hm
  unfold sT
  omega
theorem dT_lt {m : Nat → Nat} (hm : MOK m) (h1 : 1 ≤ m 2) {z : Nat} (hz : z < m 2 * m 3) : dT m z < 48 := by
  obtain ⟨k1, k2⟩ := blk_dm h1 hz
  obtain ⟨a1, a2, a3, a4⟩ := hm
  unfold dT
  omega
theorem blk_48 {m : Nat → Nat} (hm : MOK m) : m 2 * m 3 ≤ 48 := by
  obtain ⟨a1, a2, a3, a4⟩ := hm
  exact Nat.le_trans (Nat.mul_le_mul (show m 2 ≤ 8 by omega) (show m 3 ≤ 6 by omega)) (by decide)
theorem sh_by (a b c d : Nat) : 8 * (nI a - nI b) + nI c - nI d = nI (8 * a + c) - nI (8 * b + d) := by
  rw [← nI_add, ← nI_add, ← pk_mul, ← pk_mul]
  have e : nI 8 = 8 := rfl
  rw [e]
  grind
theorem sh_src {m : Nat → Nat} (h1 : 1 ≤ m 2) (h8 : m 2 ≤ 8) {z : Nat} (hz : z < 48) : 8 * (nI (m 1) + nI z / nI (m 2)) + nI (m 0) + (nI z - nI z / nI (m 2) * nI (m 2)) = nI (sT m z) := by
  rw [pk_rem (by omega) h1 (by omega), pk_div (by omega) h1 (by omega)]
  unfold sT
  rw [← nI_add, ← nI_add, ← pk_mul, ← nI_add]
  rfl
theorem sh_dst {m : Nat → Nat} (z : Nat) : nI (sT m z) + (nI (dstN m) - nI (srcN m)) = nI (dT m z) := by
  have e : sT m z + dstN m = dT m z + srcN m := by
    unfold sT dT dstN srcN
    omega
  have e2 : nI (sT m z) + nI (dstN m) = nI (dT m z) + nI (srcN m) := by rw [nI_add, nI_add, e]
  grind
theorem sh_at0 {m : Nat → Nat} (hm : MOK m) {i : Nat} (c : nI (dstN m) - nI (srcN m) ≤ 0) : shA9 m i = i := by
  obtain ⟨a1, a2, a3, a4⟩ := hm
  unfold shA9
  refine if_pos (Nat.not_lt.mp (fun z => ?_))
  rw [Int32.le_iff_toInt_le, pk_sub_toInt (by unfold dstN; omega) (by unfold srcN; omega)] at c
  have : (0 : Int32).toInt = 0 := rfl
  omega
theorem sh_at1 {m : Nat → Nat} (hm : MOK m) {i : Nat} (c : ¬ nI (dstN m) - nI (srcN m) ≤ 0) : shA9 m i = m 2 * m 3 - 1 - i := by
  obtain ⟨a1, a2, a3, a4⟩ := hm
  unfold shA9
  refine if_neg (fun z => c ?_)
  rw [Int32.le_iff_toInt_le, pk_sub_toInt (by unfold dstN; omega) (by unfold srcN; omega)]
  have : (0 : Int32).toInt = 0 := rfl
  omega
/-- the first place of y from i on, k places to look at -/
def fpl (kn : Nat → Int32) (y : Int32) : Nat → Nat → Nat
  | i, 0 => i
  | i, k + 1 => if kn i = y then i else fpl kn y (i + 1) k
def meA (kn : Nat → Int32) (y : Int32) : Int32 := if fpl kn y 0 8 = 8 then 0 else 1
def meN (kn : Nat → Int32) (y : Int32) : Nat := if fpl kn y 0 8 = 8 then 7 else fpl kn y 0 8
def meK (kn : Nat → Int32) (y : Int32) : Nat → Int32 := upd (shF kn (meN kn y) 0) 0 y
end
section
theorem mk_415 : fz_M (.constant RL 7 1000308237) := ⟨List.mem_of_getElem? (i := 415) (by decide +kernel), by decide +kernel⟩
theorem mk_416 : fz_M (.constant RL 8 751363411) := ⟨List.mem_of_getElem? (i := 416) (by decide +kernel), by decide +kernel⟩
theorem mk_420 : fz_M (.constant RL 9 2147483647) := ⟨List.mem_of_getElem? (i := 420) (by decide +kernel), by decide +kernel⟩
set_option maxHeartbeats 4000000 in
set_option maxRecDepth 100000 in
theorem c_L_low (l : Launch) (g : GG) (v n : Int32) (hn : ¬ n = 0) (ws : va_W) : fz_C l g yL_low cL_low 2 (some .int) 0 0 [.int v, .int n] (ws) (ws) (some (.int (lowI v n))) := by
  refine fz_C.of (by decide) (Nat.le_of_ble_eq_true rfl) ?_
  intro p e s m args below meth c A ls X hW hl
  have hx := X.1
  have hb := X.2.1
  have hl : lv_has ls 2 [(0, .int v), (1, .int n)] := hl
  have X : fz_X p s m meth c RL cL_low 2 (some .int) g A := X
  have hW : fz_W g A s (ws) s.heap [] := hW
  refine lv_iload_n hx hb dL_low_0 rfl (lv_at hl 0 rfl) ?_
  refine lv_ldc hx hb X.2.2.2.2.1 (X.2.2.2.2.2.2.1.use mk_420 args) dL_low_1 ?_
  refine lv_iand hx hb dL_low_3 ?_
  refine lv_iload_n hx hb dL_low_4 rfl (lv_at hl 1 rfl) ?_
  refine lv_irem hx hb dL_low_5 hn ?_
  exact fz_ri X (fz_cast (rfl) hW) (rfl) dL_low_6
set_option maxHeartbeats 4000000 in
set_option maxRecDepth 100000 in
theorem c_L_kind (l : Launch) (g : GG) (r : Nat → Nat) (x : LV) (t : Nat) (ht : t < 48) (hn : ∃ k, k < 256 ∧ x.n t = nI k) (hh : ∃ k, k < 256 ∧ x.h t = nI k) : fz_C l g yL_kind cL_kind 5 (some .int) 0 0 [.int (nI t), .ref (r 0), .ref (r 3)] (RW g r x) (RW g r x) (some (.int (kdL x.n x.h t))) := by
  refine fz_C.of (by decide) (Nat.le_of_ble_eq_true rfl) ?_
  intro p e s m args below meth c A ls X hW hl
  have hx := X.1
  have hb := X.2.1
  have hl : lv_has ls 5 [(0, .int (nI t)), (1, .ref (r 0)), (2, .ref (r 3))] := hl
  have X : fz_X p s m meth c RL cL_kind 5 (some .int) g A := X
  have hW : fz_W g A s (RW g r x) s.heap [] := hW
  obtain ⟨p1, hp1, ep1⟩ := hn
  obtain ⟨b1, hb1, eb1⟩ := hh
  refine lv_iconst (v := 0) hx hb dL_kind_0 (by decide) ?_
  refine lv_istore_n (lv' := [(3, .int 0), (0, .int (nI t)), (1, .ref (r 0)), (2, .ref (r 3))]) hx hb dL_kind_1 rfl hl (by decide) rfl (fun ls hl => ?_)
  refine lv_aload_n hx hb dL_kind_2 rfl (lv_at hl 3 rfl) ?_
  refine lv_iload_n hx hb dL_kind_3 rfl (lv_at hl 1 rfl) ?_
  refine fz_il X hW 3 (t) rfl rfl (by omega) (by decide) dL_kind_4 ?_
  refine fz_top (x' := nI b1) eb1 ?_
  refine lv_istore (lv' := [(4, .int (nI b1)), (3, .int 0), (0, .int (nI t)), (1, .ref (r 0)), (2, .ref (r 3))]) hx hb dL_kind_5 hl (by decide) rfl (fun ls hl => ?_)
  have loop7 : ∀ (k : Nat) (b mm : Nat), b < 256 → b < k → mm + popB 8 b = popB 8 b1 → ∀ (H : Heap) (locs : List Loc) (ls : Array Slot), fz_W g A s (RW g r x) H locs → lv_has ls 5 [(0, .int (nI t)), (1, .ref (r 0)), (2, .ref (r 3)), (3, .int (nI mm)), (4, .int (nI b))] → W p l e (fz_R 0 0 0 0) s m args below meth c H locs 0 0 (MQ below (fz_Q g (RW g r x) (some (.int (kdL x.n x.h t))) A) args s 0 0 A) (F0 m 7 ls []) := by
    intro k
    induction k with
    | zero =>
      intro b mm hq hk
      omega
    | succ k ih7 =>
      intro b mm hq hk hs H locs ls hW hl
      refine lv_iload hx hb dL_kind_7 (lv_at hl 4 rfl) ?_
      refine lv_if_le (tgt := 28) hx hb dL_kind_9 (by decide) (fun c9 => ?_) (fun c9 => ?_)
      · skip
        have h9 : b = 0 := by
          have := (nI_leI (a := b) (b := 0) (by omega) (by omega)).mp c9
          omega
        subst h9
        have hmm : mm = popB 8 b1 := by rw [pop_0] at hs; exact hs
        subst hmm
        have eb : bcI (x.h t) = nI (popB 8 b1) := by rw [eb1]; exact pop_bc ⟨b1, hb1⟩
        have b8 := pop_8 ⟨b1, hb1⟩
        refine lv_iload_n hx hb dL_kind_28 rfl (lv_at hl 3 rfl) ?_
        refine lv_iconst (v := 4) hx hb dL_kind_29 (by decide) ?_
        refine lv_icmp_lt (tgt := 37) hx hb dL_kind_30 (by decide) (fun c30 => ?_) (fun c30 => ?_)
        · skip
          have k30 : bcI (x.h t) < 4 := by rw [eb]; exact c30
          refine lv_aload_n hx hb dL_kind_37 rfl (lv_at hl 1 rfl) ?_
          refine lv_iload_n hx hb dL_kind_38 rfl (lv_at hl 0 rfl) ?_
          refine fz_il X hW 0 (t) rfl rfl (by omega) (by decide) dL_kind_39 ?_
          refine lv_bipush (v := 64) hx hb dL_kind_40 (by decide) ?_
          refine lv_idiv hx hb dL_kind_42 (by decide) ?_
          refine lv_if_ne (tgt := 50) hx hb dL_kind_43 (by decide) (fun c43 => ?_) (fun c43 => ?_)
          · skip
            have k43 : ¬ x.n t < 64 := fun z => c43 (by rw [ep1] at z ⊢; exact (q64 ⟨p1, hp1⟩).mpr z)
            refine lv_iconst (v := 1) hx hb dL_kind_50 (by decide) ?_
            exact fz_ri X (fz_cast (rfl) hW) (by unfold kdL; rw [if_pos k30, if_neg k43]) dL_kind_51
          · skip
            have k43 : x.n t < 64 := by rw [ep1] at c43 ⊢; exact (q64 ⟨p1, hp1⟩).mp c43
            refine lv_iconst (v := 0) hx hb dL_kind_46 (by decide) ?_
            refine lv_goto (tgt := 51) hx hb dL_kind_47 (by decide) ?_
            exact fz_ri X (fz_cast (rfl) hW) (by unfold kdL; rw [if_pos k30, if_pos k43]) dL_kind_51
        · skip
          have k30 : ¬ bcI (x.h t) < 4 := by rw [eb]; exact c30
          refine lv_iconst (v := 2) hx hb dL_kind_33 (by decide) ?_
          refine lv_goto (tgt := 51) hx hb dL_kind_34 (by decide) ?_
          exact fz_ri X (fz_cast (rfl) hW) (by unfold kdL; rw [if_neg k30]) dL_kind_51
      · skip
        have h9 : 0 < b := Nat.not_le.mp (fun z => c9 ((nI_leI (a := b) (b := 0) (by omega) (by omega)).mpr z))
        refine lv_iload_n hx hb dL_kind_12 rfl (lv_at hl 3 rfl) ?_
        refine lv_iload hx hb dL_kind_13 (lv_at hl 4 rfl) ?_
        refine lv_iconst (v := 2) hx hb dL_kind_15 (by decide) ?_
        refine lv_irem hx hb dL_kind_16 (by decide) ?_
        refine lv_iadd hx hb dL_kind_17 ?_
        refine fz_top (x' := nI (mm + b % 2)) (by rw [show (2 : Int32) = nI 2 from rfl, pk_rem (by omega) (by decide) (by decide), nI_add]) ?_
        refine lv_istore_n (lv' := [(3, .int (nI (mm + b % 2))), (0, .int (nI t)), (1, .ref (r 0)), (2, .ref (r 3)), (4, .int (nI b))]) hx hb dL_kind_18 rfl hl (by decide) rfl (fun ls hl => ?_)
        refine lv_iload hx hb dL_kind_19 (lv_at hl 4 rfl) ?_
        refine lv_iconst (v := 2) hx hb dL_kind_21 (by decide) ?_
        refine lv_idiv hx hb dL_kind_22 (by decide) ?_
        refine fz_top (x' := nI (b / 2)) (by rw [show (2 : Int32) = nI 2 from rfl, pk_div (by omega) (by decide) (by decide)]) ?_
        refine lv_istore (lv' := [(4, .int (nI (b / 2))), (3, .int (nI (mm + b % 2))), (0, .int (nI t)), (1, .ref (r 0)), (2, .ref (r 3))]) hx hb dL_kind_23 hl (by decide) rfl (fun ls hl => ?_)
        refine lv_goto (tgt := 7) hx hb dL_kind_25 (by decide) ?_
        exact ih7 (b / 2) (mm + b % 2) (by omega) (by omega) (by have hps : popB 8 b = b % 2 + popB 8 (b / 2) := pop_s ⟨b, hq⟩; omega) _ _ _ (fz_cast (rfl) hW) (lv_sub hl [2, 3, 4, 1, 0] rfl)
  exact loop7 (b1 + 1) b1 0 hb1 (by omega) (Nat.zero_add _) _ _ _ (fz_cast (rfl) hW) (lv_sub hl [2, 3, 4, 1, 0] rfl)
set_option maxHeartbeats 4000000 in
set_option maxRecDepth 100000 in
theorem c_L_like (l : Launch) (g : GG) (r : Nat → Nat) (x : LV) (t : Nat) (ht : t < 48) : fz_C l g yL_like cL_like 5 none 0 0 [.int (nI t), .ref (r 0), .ref (r 1), .ref (r 2), .ref (r 6)] (RW g r x) (RW g r (lkV x t)) none := by
  refine fz_C.of (by decide) (Nat.le_of_ble_eq_true rfl) ?_
  intro p e s m args below meth c A ls X hW hl
  have hx := X.1
  have hb := X.2.1
  have hl : lv_has ls 5 [(0, .int (nI t)), (1, .ref (r 0)), (2, .ref (r 1)), (3, .ref (r 2)), (4, .ref (r 6))] := hl
  have X : fz_X p s m meth c RL cL_like 5 none g A := X
  have hW : fz_W g A s (RW g r x) s.heap [] := hW
  refine lv_aload_n hx hb dL_like_0 rfl (lv_at hl 1 rfl) ?_
  refine lv_iload_n hx hb dL_like_1 rfl (lv_at hl 0 rfl) ?_
  refine fz_il X hW 0 (t) rfl rfl (by omega) (by decide) dL_like_2 ?_
  refine lv_aload_n hx hb dL_like_3 rfl (lv_at hl 2 rfl) ?_
  refine lv_iload_n hx hb dL_like_4 rfl (lv_at hl 0 rfl) ?_
  refine fz_il X hW 1 (t) rfl rfl (by omega) (by decide) dL_like_5 ?_
  refine lv_icmp_ne (tgt := 16) hx hb dL_like_6 (by decide) (fun c6 => ?_) (fun c6 => ?_)
  · skip
    refine lv_aload_n hx hb dL_like_16 rfl (lv_at hl 3 rfl) ?_
    refine lv_iload_n hx hb dL_like_17 rfl (lv_at hl 0 rfl) ?_
    refine fz_il X hW 2 (t) rfl rfl (by omega) (by decide) dL_like_18 ?_
    refine lv_if_ge (tgt := 29) hx hb dL_like_19 (by decide) (fun c19 => ?_) (fun c19 => ?_)
    · skip
      exact fz_rv X (fz_cast (show RW g r x = RW g r (lkV x t) from congrArg (RW g r) (by unfold lkV; rw [if_neg c6, if_pos c19])) hW) dL_like_29
    · skip
      refine lv_aload_n hx hb dL_like_22 rfl (lv_at hl 3 rfl) ?_
      refine lv_iload_n hx hb dL_like_23 rfl (lv_at hl 0 rfl) ?_
      refine lv_aload hx hb dL_like_24 (lv_at hl 4 rfl) ?_
      refine lv_iconst (v := 0) hx hb dL_like_26 (by decide) ?_
      refine fz_il X hW 6 (0) rfl rfl (by omega) (by decide) dL_like_27 ?_
      refine fz_is X hW 2 (t) rfl rfl (by omega) (by decide) dL_like_28 (fun H locs hW => ?_)
      exact fz_rv X (fz_cast (show RW g r (x.uS (upd x.u t (x.gg 0))) = RW g r (lkV x t) from congrArg (RW g r) (by unfold lkV; rw [if_neg c6, if_neg c19])) hW) dL_like_29
  · skip
    refine lv_aload_n hx hb dL_like_9 rfl (lv_at hl 3 rfl) ?_
    refine lv_iload_n hx hb dL_like_10 rfl (lv_at hl 0 rfl) ?_
    refine lv_iconst (v := (-1)) hx hb dL_like_11 (by decide) ?_
    refine fz_is X hW 2 (t) rfl rfl (by omega) (by decide) dL_like_12 (fun H locs hW => ?_)
    refine lv_goto (tgt := 29) hx hb dL_like_13 (by decide) ?_
    exact fz_rv X (fz_cast (show RW g r (x.uS (upd x.u t (-1))) = RW g r (lkV x t) from congrArg (RW g r) (by unfold lkV; rw [if_pos c6])) hW) dL_like_29
set_option maxHeartbeats 4000000 in
set_option maxRecDepth 100000 in
theorem c_L_draw (l : Launch) (g : GG) (r : Nat → Nat) (x : LV) (t : Nat) (ht : t < 48) (q : Int32) : fz_C l g yL_draw cL_draw 7 none 1 24 [.int (nI t), .int q, .ref (r 0), .ref (r 1), .ref (r 2), .ref (r 3), .ref (r 6)] (RW g r x) (RW g r (drV x t q)) none := by
  refine fz_C.of (by decide) (Nat.le_of_ble_eq_true rfl) ?_
  intro p e s m args below meth c A ls X hW hl
  have hx := X.1
  have hb := X.2.1
  have hl : lv_has ls 7 [(0, .int (nI t)), (1, .int q), (2, .ref (r 0)), (3, .ref (r 1)), (4, .ref (r 2)), (5, .ref (r 3)), (6, .ref (r 6))] := hl
  have X : fz_X p s m meth c RL cL_draw 7 none g A := X
  have hW : fz_W g A s (RW g r x) s.heap [] := hW
  refine lv_aload_n hx hb dL_draw_0 rfl (lv_at hl 2 rfl) ?_
  refine lv_iload_n hx hb dL_draw_1 rfl (lv_at hl 0 rfl) ?_
  refine fz_il X hW 0 (t) rfl rfl (by omega) (by decide) dL_draw_2 ?_
  refine lv_iload_n hx hb dL_draw_3 rfl (lv_at hl 1 rfl) ?_
  refine lv_icmp_eq (tgt := 15) hx hb dL_draw_4 (by decide) (fun c4 => ?_) (fun c4 => ?_)
  · skip
    have e4 : drN x t q = x.nS (upd x.n t q) := by
      have : drH x t q = x := if_pos c4
      unfold drN
      rw [this]
    refine lv_aload_n hx hb dL_draw_15 rfl (lv_at hl 2 rfl) ?_
    refine lv_iload_n hx hb dL_draw_16 rfl (lv_at hl 0 rfl) ?_
    refine lv_iload_n hx hb dL_draw_17 rfl (lv_at hl 1 rfl) ?_
    refine fz_is X hW 0 (t) rfl rfl (by omega) (by decide) dL_draw_18 (fun H locs hW => ?_)
    have hW : fz_W g A s (RW g r (drN x t q)) H locs := fz_cast (by rw [e4]; first | done | rfl) hW
    refine lv_iload_n hx hb dL_draw_19 rfl (lv_at hl 0 rfl) ?_
    refine lv_aload_n hx hb dL_draw_20 rfl (lv_at hl 2 rfl) ?_
    refine lv_aload_n hx hb dL_draw_21 rfl (lv_at hl 3 rfl) ?_
    refine lv_aload hx hb dL_draw_22 (lv_at hl 4 rfl) ?_
    refine lv_aload hx hb dL_draw_24 (lv_at hl 6 rfl) ?_
    refine fz_cSv X hW (c_L_like l g r (drN x t q) t ht) lk_L_10 rfl ⟨Nat.le_of_ble_eq_true rfl, Nat.le_of_ble_eq_true rfl⟩ hl rfl (Nat.le_of_ble_eq_true rfl) dL_draw_26 ⟨Nat.le_refl _, Nat.le_refl _⟩ (fun H locs hW => ?_)
    exact fz_rv X (fz_cast (rfl) hW) dL_draw_29
  · skip
    have e4 : drN x t q = (x.hS (upd x.h t (x.h t ||| 1))).nS (upd x.n t q) := by
      have : drH x t q = x.hS (upd x.h t (x.h t ||| 1)) := if_neg c4
      unfold drN
      rw [this]
      rfl
    refine lv_aload hx hb dL_draw_7 (lv_at hl 5 rfl) ?_
    refine lv_iload_n hx hb dL_draw_9 rfl (lv_at hl 0 rfl) ?_
    refine lv_dup2_11 hx hb dL_draw_10 rfl rfl ?_
    refine fz_il X hW 3 (t) rfl rfl (by omega) (by decide) dL_draw_11 ?_
    refine lv_iconst (v := 1) hx hb dL_draw_12 (by decide) ?_
    refine lv_ior hx hb dL_draw_13 ?_
    refine fz_is X hW 3 (t) rfl rfl (by omega) (by decide) dL_draw_14 (fun H locs hW => ?_)
    refine lv_aload_n hx hb dL_draw_15 rfl (lv_at hl 2 rfl) ?_
    refine lv_iload_n hx hb dL_draw_16 rfl (lv_at hl 0 rfl) ?_
    refine lv_iload_n hx hb dL_draw_17 rfl (lv_at hl 1 rfl) ?_
    refine fz_is X hW 0 (t) rfl rfl (by omega) (by decide) dL_draw_18 (fun H locs hW => ?_)
    have hW : fz_W g A s (RW g r (drN x t q)) H locs := fz_cast (by rw [e4]; first | done | rfl) hW
    refine lv_iload_n hx hb dL_draw_19 rfl (lv_at hl 0 rfl) ?_
    refine lv_aload_n hx hb dL_draw_20 rfl (lv_at hl 2 rfl) ?_
    refine lv_aload_n hx hb dL_draw_21 rfl (lv_at hl 3 rfl) ?_
    refine lv_aload hx hb dL_draw_22 (lv_at hl 4 rfl) ?_
    refine lv_aload hx hb dL_draw_24 (lv_at hl 6 rfl) ?_
    refine fz_cSv X hW (c_L_like l g r (drN x t q) t ht) lk_L_10 rfl ⟨Nat.le_of_ble_eq_true rfl, Nat.le_of_ble_eq_true rfl⟩ hl rfl (Nat.le_of_ble_eq_true rfl) dL_draw_26 ⟨Nat.le_refl _, Nat.le_refl _⟩ (fun H locs hW => ?_)
    exact fz_rv X (fz_cast (rfl) hW) dL_draw_29
end
section
set_option maxHeartbeats 4000000 in
set_option maxRecDepth 100000 in
theorem c_L_shift (l : Launch) (g : GG) (q r : Nat) (scr w : Nat → Int32) (b : Nat) (mo : Nat → Nat) (hb6 : b + 6 ≤ 30) (hw : ∀ i, i < 6 → w (b + i) = nI (mo i)) (hm : MOK mo) (h1 : 1 ≤ mo 2) : fz_C l g yL_shift cL_shift 8 none 0 0 [.ref q, .ref r, .int (nI b)] (HW g q r scr w) (HW g q r (shN mo scr (mo 2 * mo 3)) w) none := by
  refine fz_C.of (by decide) (Nat.le_of_ble_eq_true rfl) ?_
  intro p e s m args below meth c A ls X hW hl
  have hx := X.1
  have hb := X.2.1
  have hl : lv_has ls 8 [(0, .ref q), (1, .ref r), (2, .int (nI b))] := hl
  have X : fz_X p s m meth c RL cL_shift 8 none g A := X
  have hW : fz_W g A s (HW g q r scr w) s.heap [] := hW
  have w0 : w b = nI (mo 0) := hw 0 (by decide)
  have w1 := hw 1 (by decide)
  have w2 := hw 2 (by decide)
  have w3 := hw 3 (by decide)
  have w4 := hw 4 (by decide)
  have w5 := hw 5 (by decide)
  obtain ⟨a1, a2, a3, a4⟩ := hm
  have hm : MOK mo := ⟨a1, a2, a3, a4⟩
  have h48 := blk_48 hm
  refine lv_bipush (v := 8) hx hb dL_shift_0 (by decide) ?_
  refine lv_aload_n hx hb dL_shift_2 rfl (lv_at hl 1 rfl) ?_
  refine lv_iload_n hx hb dL_shift_3 rfl (lv_at hl 2 rfl) ?_
  refine lv_iconst (v := 5) hx hb dL_shift_4 (by decide) ?_
  refine lv_iadd hx hb dL_shift_5 ?_
  refine fz_il X hW 1 (b + 5) rfl (nI_add b 5) (by omega) (by decide) dL_shift_6 ?_
  refine lv_aload_n hx hb dL_shift_7 rfl (lv_at hl 1 rfl) ?_
  refine lv_iload_n hx hb dL_shift_8 rfl (lv_at hl 2 rfl) ?_
  refine lv_iconst (v := 1) hx hb dL_shift_9 (by decide) ?_
  refine lv_iadd hx hb dL_shift_10 ?_
  refine fz_il X hW 1 (b + 1) rfl (nI_add b 1) (by omega) (by decide) dL_shift_11 ?_
  refine lv_isub hx hb dL_shift_12 ?_
  refine lv_imul hx hb dL_shift_13 ?_
  refine lv_aload_n hx hb dL_shift_14 rfl (lv_at hl 1 rfl) ?_
  refine lv_iload_n hx hb dL_shift_15 rfl (lv_at hl 2 rfl) ?_
  refine lv_iconst (v := 4) hx hb dL_shift_16 (by decide) ?_
  refine lv_iadd hx hb dL_shift_17 ?_
  refine fz_il X hW 1 (b + 4) rfl (nI_add b 4) (by omega) (by decide) dL_shift_18 ?_
  refine lv_iadd hx hb dL_shift_19 ?_
  refine lv_aload_n hx hb dL_shift_20 rfl (lv_at hl 1 rfl) ?_
  refine lv_iload_n hx hb dL_shift_21 rfl (lv_at hl 2 rfl) ?_
  refine fz_il X hW 1 (b) rfl rfl (by omega) (by decide) dL_shift_22 ?_
  refine lv_isub hx hb dL_shift_23 ?_
  refine fz_top (x' := nI (dstN mo) - nI (srcN mo)) (by rw [w5, w1, w4, w0]; exact sh_by _ _ _ _) ?_
  refine lv_istore_n (lv' := [(3, .int (nI (dstN mo) - nI (srcN mo))), (0, .ref q), (1, .ref r), (2, .int (nI b))]) hx hb dL_shift_24 rfl hl (by decide) rfl (fun ls hl => ?_)
  refine lv_aload_n hx hb dL_shift_25 rfl (lv_at hl 2 rfl) ?_
  refine lv_iload_n hx hb dL_shift_26 rfl (lv_at hl 3 rfl) ?_
  refine lv_iconst (v := 2) hx hb dL_shift_27 (by decide) ?_
  refine lv_iadd hx hb dL_shift_28 ?_
  refine fz_il X hW 1 (b + 2) rfl (nI_add b 2) (by omega) (by decide) dL_shift_29 ?_
  refine lv_aload_n hx hb dL_shift_30 rfl (lv_at hl 2 rfl) ?_
  refine lv_iload_n hx hb dL_shift_31 rfl (lv_at hl 3 rfl) ?_
  refine lv_iconst (v := 3) hx hb dL_shift_32 (by decide) ?_
  refine lv_iadd hx hb dL_shift_33 ?_
  refine fz_il X hW 1 (b + 3) rfl (nI_add b 3) (by omega) (by decide) dL_shift_34 ?_
  refine lv_imul hx hb dL_shift_35 ?_
  refine fz_top (x' := nI (mo 2 * mo 3)) (by rw [w2, w3]; exact pk_mul _ _) ?_
  refine lv_istore (lv' := [(4, .int (nI (mo 2 * mo 3))), (3, .int (nI (dstN mo) - nI (srcN mo))), (0, .ref q), (1, .ref r), (2, .int (nI b))]) hx hb dL_shift_36 hl (by decide) rfl (fun ls hl => ?_)
  refine lv_iconst (v := 0) hx hb dL_shift_38 (by decide) ?_
  refine lv_istore (lv' := [(5, .int 0), (4, .int (nI (mo 2 * mo 3))), (3, .int (nI (dstN mo) - nI (srcN mo))), (0, .ref q), (1, .ref r), (2, .int (nI b))]) hx hb dL_shift_39 hl (by decide) rfl (fun ls hl => ?_)
  have loop41 : ∀ (k : Nat) (i : Nat), i ≤ mo 2 * mo 3 → mo 2 * mo 3 < i + k → ∀ (H : Heap) (locs : List Loc) (ls : Array Slot), fz_W g A s (HW g q r (shN mo scr i) w) H locs → lv_has ls 8 [(0, .ref q), (1, .ref r), (2, .int (nI b)), (3, .int (nI (dstN mo) - nI (srcN mo))), (4, .int (nI (mo 2 * mo 3))), (5, .int (nI i))] → W p l e (fz_R 0 0 0 0) s m args below meth c H locs 0 0 (MQ below (fz_Q g (HW g q r (shN mo scr (mo 2 * mo 3)) w) none A) args s 0 0 A) (F0 m 41 ls []) := by
    intro k
    induction k with
    | zero =>
      intro i hi hk
      omega
    | succ k ih41 =>
      intro i hi hki H locs ls hW hl
      refine lv_iload hx hb dL_shift_41 (lv_at hl 5 rfl) ?_
      refine lv_iload hx hb dL_shift_43 (lv_at hl 4 rfl) ?_
      refine lv_icmp_ge (tgt := 114) hx hb dL_shift_45 (by decide) (fun c45 => ?_) (fun c45 => ?_)
      · skip
        have h45 : mo 2 * mo 3 ≤ i := (nI_leI (a := mo 2 * mo 3) (b := i) (by omega) (by omega)).mp c45
        have e45 : i = mo 2 * mo 3 := by omega
        exact fz_rv X (fz_cast (by rw [e45]) hW) dL_shift_114
      · skip
        have h45 : i < mo 2 * mo 3 := Nat.not_le.mp (fun z => c45 ((nI_leI (a := mo 2 * mo 3) (b := i) (by omega) (by omega)).mpr z))
        refine lv_iload_n hx hb dL_shift_48 rfl (lv_at hl 3 rfl) ?_
        have join64 : ∀ (z : Nat), z = shA9 mo i → z < mo 2 * mo 3 → ∀ (ls : Array Slot), lv_has ls 8 [(0, .ref q), (1, .ref r), (2, .int (nI b)), (3, .int (nI (dstN mo) - nI (srcN mo))), (4, .int (nI (mo 2 * mo 3))), (5, .int (nI i))] → W p l e (fz_R 0 0 0 0) s m args below meth c H locs 0 0 (MQ below (fz_Q g (HW g q r (shN mo scr (mo 2 * mo 3)) w) none A) args s 0 0 A) (F0 m 64 ls [.int (nI z)]) := by
          intro z hz hz2 ls hl
          refine lv_istore (lv' := [(6, .int (nI z)), (0, .ref q), (1, .ref r), (2, .int (nI b)), (3, .int (nI (dstN mo) - nI (srcN mo))), (4, .int (nI (mo 2 * mo 3))), (5, .int (nI i))]) hx hb dL_shift_64 hl (by decide) rfl (fun ls hl => ?_)
          refine lv_bipush (v := 8) hx hb dL_shift_66 (by decide) ?_
          refine lv_aload_n hx hb dL_shift_68 rfl (lv_at hl 2 rfl) ?_
          refine lv_iload_n hx hb dL_shift_69 rfl (lv_at hl 3 rfl) ?_
          refine lv_iconst (v := 1) hx hb dL_shift_70 (by decide) ?_
          refine lv_iadd hx hb dL_shift_71 ?_
          refine fz_il X hW 1 (b + 1) rfl (nI_add b 1) (by omega) (by decide) dL_shift_72 ?_
          refine lv_iload hx hb dL_shift_73 (lv_at hl 0 rfl) ?_
          refine lv_aload_n hx hb dL_shift_75 rfl (lv_at hl 2 rfl) ?_
          refine lv_iload_n hx hb dL_shift_76 rfl (lv_at hl 3 rfl) ?_
          refine lv_iconst (v := 2) hx hb dL_shift_77 (by decide) ?_
          refine lv_iadd hx hb dL_shift_78 ?_
          refine fz_il X hW 1 (b + 2) rfl (nI_add b 2) (by omega) (by decide) dL_shift_79 ?_
          refine lv_idiv hx hb dL_shift_80 (by rw [w2]; exact nI_ne0 (by omega) (by omega)) ?_
          refine lv_iadd hx hb dL_shift_81 ?_
          refine lv_imul hx hb dL_shift_82 ?_
          refine lv_aload_n hx hb dL_shift_83 rfl (lv_at hl 2 rfl) ?_
          refine lv_iload_n hx hb dL_shift_84 rfl (lv_at hl 3 rfl) ?_
          refine fz_il X hW 1 (b) rfl rfl (by omega) (by decide) dL_shift_85 ?_
          refine lv_iadd hx hb dL_shift_86 ?_
          refine lv_iload hx hb dL_shift_87 (lv_at hl 0 rfl) ?_
          refine lv_aload_n hx hb dL_shift_89 rfl (lv_at hl 2 rfl) ?_
          refine lv_iload_n hx hb dL_shift_90 rfl (lv_at hl 3 rfl) ?_
          refine lv_iconst (v := 2) hx hb dL_shift_91 (by decide) ?_
          refine lv_iadd hx hb dL_shift_92 ?_
          refine fz_il X hW 1 (b + 2) rfl (nI_add b 2) (by omega) (by decide) dL_shift_93 ?_
          refine lv_irem hx hb dL_shift_94 (by rw [w2]; exact nI_ne0 (by omega) (by omega)) ?_
          refine lv_iadd hx hb dL_shift_95 ?_
          refine fz_top (x' := nI (sT mo z)) (by rw [w1, w2, w0]; exact sh_src h1 (by omega) (by omega)) ?_
          refine lv_istore (lv' := [(7, .int (nI (sT mo z))), (6, .int (nI z)), (0, .ref q), (1, .ref r), (2, .int (nI b)), (3, .int (nI (dstN mo) - nI (srcN mo))), (4, .int (nI (mo 2 * mo 3))), (5, .int (nI i))]) hx hb dL_shift_96 hl (by decide) rfl (fun ls hl => ?_)
          refine lv_aload_n hx hb dL_shift_98 rfl (lv_at hl 2 rfl) ?_
          refine lv_iload hx hb dL_shift_99 (lv_at hl 0 rfl) ?_
          refine lv_iload_n hx hb dL_shift_101 rfl (lv_at hl 5 rfl) ?_
          refine lv_iadd hx hb dL_shift_102 ?_
          refine lv_aload_n hx hb dL_shift_103 rfl (lv_at hl 2 rfl) ?_
          refine lv_iload hx hb dL_shift_104 (lv_at hl 0 rfl) ?_
          refine fz_il X hW 0 (sT mo z) rfl rfl (sT_lt hm h1 hz2) (by decide) dL_shift_106 ?_
          refine fz_is X hW 0 (dT mo z) rfl (sh_dst z) (dT_lt hm h1 hz2) (by decide) dL_shift_107 (fun H locs hW => ?_)
          refine lv_iinc (v := nI (i + 1)) (lv' := [(5, .int (nI (i + 1))), (7, .int (nI (sT mo z))), (6, .int (nI z)), (0, .ref q), (1, .ref r), (2, .int (nI b)), (3, .int (nI (dstN mo) - nI (srcN mo))), (4, .int (nI (mo 2 * mo 3)))]) hx hb dL_shift_108 hl (k := 7) rfl (nI_1 _) (by decide) rfl (fun ls hl => ?_)
          refine lv_goto (tgt := 41) hx hb dL_shift_111 (by decide) ?_
          exact ih41 (i + 1) (by omega) (by omega) _ _ _ (fz_cast (by subst hz; rfl) hW) (lv_sub hl [3, 4, 5, 6, 7, 0] rfl)
        refine lv_if_le (tgt := 62) hx hb dL_shift_49 (by decide) (fun c49 => ?_) (fun c49 => ?_)
        · skip
          refine lv_iload hx hb dL_shift_62 (lv_at hl 5 rfl) ?_
          exact join64 i (sh_at0 hm c49).symm h45 _ (lv_sub hl [0, 1, 2, 3, 4, 5] rfl)
        · skip
          refine lv_iload hx hb dL_shift_52 (lv_at hl 4 rfl) ?_
          refine lv_iconst (v := 1) hx hb dL_shift_54 (by decide) ?_
          refine lv_isub hx hb dL_shift_55 ?_
          refine lv_iload hx hb dL_shift_56 (lv_at hl 5 rfl) ?_
          refine lv_isub hx hb dL_shift_58 ?_
          refine fz_top (x' := nI (mo 2 * mo 3 - 1 - i)) (by rw [show (1 : Int32) = nI 1 from rfl, pk_sub (by omega), pk_sub (by omega)]) ?_
          refine lv_goto (tgt := 64) hx hb dL_shift_59 (by decide) ?_
          exact join64 (mo 2 * mo 3 - 1 - i) (sh_at1 hm c49).symm (by omega) _ (lv_sub hl [0, 1, 2, 3, 4, 5] rfl)
  exact loop41 (mo 2 * mo 3 + 1) 0 (by omega) (by omega) _ _ _ (fz_cast (rfl) hW) (lv_sub hl [3, 4, 5, 2, 1, 0] rfl)
end
section
set_option maxHeartbeats 4000000 in
set_option maxRecDepth 100000 in
theorem c_L_meetA (l : Launch) (g : GG) (q : Nat) (kn : Nat → Int32) (y : Int32) : fz_C l g yL_meet cL_meet 5 (some .int) 0 0 [.int y, .ref q, .int 1] ([(q, .inl (g.2 0, 9, .inl kn))]) ([(q, .inl (g.2 0, 9, .inl kn))]) (some (.int (meA kn (y + 1)))) := by
  refine fz_C.of (by decide) (Nat.le_of_ble_eq_true rfl) ?_
  intro p e s m args below meth c A ls X hW hl
  have hx := X.1
  have hb := X.2.1
  have hl : lv_has ls 5 [(0, .int y), (1, .ref q), (2, .int 1)] := hl
  have X : fz_X p s m meth c RL cL_meet 5 (some .int) g A := X
  have hW : fz_W g A s ([(q, .inl (g.2 0, 9, .inl kn))]) s.heap [] := hW
  refine lv_iconst (v := 0) hx hb dL_meet_0 (by decide) ?_
  refine lv_istore_n (lv' := [(3, .int 0), (0, .int y), (1, .ref q), (2, .int 1)]) hx hb dL_meet_1 rfl hl (by decide) rfl (fun ls hl => ?_)
  have loop2 : ∀ (k : Nat) (i : Nat), i ≤ 8 → 8 < i + k → fpl kn (y + 1) 0 8 = fpl kn (y + 1) i (8 - i) → ∀ (H : Heap) (locs : List Loc) (ls : Array Slot), fz_W g A s ([(q, .inl (g.2 0, 9, .inl kn))]) H locs → lv_has ls 5 [(0, .int y), (1, .ref q), (2, .int 1), (3, .int (nI i))] → W p l e (fz_R 0 0 0 0) s m args below meth c H locs 0 0 (MQ below (fz_Q g ([(q, .inl (g.2 0, 9, .inl kn))]) (some (.int (meA kn (y + 1)))) A) args s 0 0 A) (F0 m 2 ls []) := by
    intro k
    induction k with
    | zero =>
      intro i hi hk
      omega
    | succ k ih2 =>
      intro i hi hk he H locs ls hW hl
      refine lv_iload_n hx hb dL_meet_2 rfl (lv_at hl 3 rfl) ?_
      refine lv_bipush (v := 8) hx hb dL_meet_3 (by decide) ?_
      refine lv_icmp_ge (tgt := 72) hx hb dL_meet_5 (by decide) (fun c5 => ?_) (fun c5 => ?_)
      · skip
        have h5 : 8 ≤ i := (nI_leI (a := 8) (b := i) (by omega) (by omega)).mp c5
        have hf : fpl kn (y + 1) 0 8 = 8 := by rw [he, show 8 - i = 0 by omega]; show i = 8; omega
        have hA : meA kn (y + 1) = 0 := if_pos hf
        refine lv_bipush (v := 7) hx hb dL_meet_72 (by decide) ?_
        refine lv_istore_n (lv' := [(3, .int 7), (0, .int y), (1, .ref q), (2, .int 1)]) hx hb dL_meet_74 rfl hl (by decide) rfl (fun ls hl => ?_)
        refine lv_iload_n hx hb dL_meet_75 rfl (lv_at hl 0 rfl) ?_
        refine lv_if_le (tgt := 97) hx hb dL_meet_76 (by decide) (fun c76 => ?_) (fun c76 => ?_)
        · first | exact absurd c76 (by decide) | exact absurd (by decide) c76
        · skip
          refine lv_iload_n hx hb dL_meet_79 rfl (lv_at hl 3 rfl) ?_
          refine lv_if_ne (tgt := 97) hx hb dL_meet_80 (by decide) (fun c80 => ?_) (fun c80 => ?_)
          · skip
            refine lv_aload_n hx hb dL_meet_97 rfl (lv_at hl 2 rfl) ?_
            refine lv_iconst (v := 0) hx hb dL_meet_98 (by decide) ?_
            refine lv_iload_n hx hb dL_meet_99 rfl (lv_at hl 3 rfl) ?_
            refine lv_if_eq (tgt := 109) hx hb dL_meet_100 (by decide) (fun c100 => ?_) (fun c100 => ?_)
            · first | exact absurd c100 (by decide) | exact absurd (by decide) c100
            · skip
              refine lv_aload_n hx hb dL_meet_103 rfl (lv_at hl 2 rfl) ?_
              refine lv_iconst (v := 0) hx hb dL_meet_104 (by decide) ?_
              refine fz_il X hW 0 (0) rfl rfl (by omega) (by decide) dL_meet_105 ?_
              refine lv_goto (tgt := 112) hx hb dL_meet_106 (by decide) ?_
              refine fz_is X hW 0 (0) rfl rfl (by omega) (by decide) dL_meet_112 (fun H locs hW => ?_)
              refine lv_iconst (v := 0) hx hb dL_meet_113 (by decide) ?_
              exact fz_ri X (fz_cast (congrArg (fun z => ([(q, .inl (g.2 0, 9, .inl (z)))] : va_W)) (upd_id kn 0)) hW) (hA.symm) dL_meet_114
          · first | exact absurd c80 (by decide) | exact absurd (by decide) c80
      · skip
        have h5 : i < 8 := Nat.not_le.mp (fun z => c5 ((nI_leI (a := 8) (b := i) (by omega) (by omega)).mpr z))
        refine lv_aload_n hx hb dL_meet_8 rfl (lv_at hl 1 rfl) ?_
        refine lv_iload_n hx hb dL_meet_9 rfl (lv_at hl 3 rfl) ?_
        refine fz_il X hW 0 (i) rfl rfl (by omega) (by decide) dL_meet_10 ?_
        refine lv_iload_n hx hb dL_meet_11 rfl (lv_at hl 0 rfl) ?_
        refine lv_iconst (v := 1) hx hb dL_meet_12 (by decide) ?_
        refine lv_iadd hx hb dL_meet_13 ?_
        refine lv_icmp_eq (tgt := 20) hx hb dL_meet_14 (by decide) (fun c14 => ?_) (fun c14 => ?_)
        · skip
          have hf : fpl kn (y + 1) 0 8 = i := by rw [he, show 8 - i = (8 - (i + 1)) + 1 by omega]; exact if_pos c14
          have hA : meA kn (y + 1) = 1 := if_neg (by omega)
          refine lv_iload_n hx hb dL_meet_20 rfl (lv_at hl 3 rfl) ?_
          refine lv_istore (lv' := [(4, .int (nI i)), (0, .int y), (1, .ref q), (2, .int 1), (3, .int (nI i))]) hx hb dL_meet_21 hl (by decide) rfl (fun ls hl => ?_)
          refine lv_iload hx hb dL_meet_23 (lv_at hl 0 rfl) ?_
          refine lv_if_le (tgt := 48) hx hb dL_meet_25 (by decide) (fun c25 => ?_) (fun c25 => ?_)
          · skip
            refine lv_aload_n hx hb dL_meet_48 rfl (lv_at hl 2 rfl) ?_
            refine lv_iconst (v := 0) hx hb dL_meet_49 (by decide) ?_
            refine lv_iload_n hx hb dL_meet_50 rfl (lv_at hl 3 rfl) ?_
            refine lv_if_eq (tgt := 60) hx hb dL_meet_51 (by decide) (fun c51 => ?_) (fun c51 => ?_)
            · first | exact absurd c51 (by decide) | exact absurd (by decide) c51
            · skip
              refine lv_aload_n hx hb dL_meet_54 rfl (lv_at hl 2 rfl) ?_
              refine lv_iconst (v := 0) hx hb dL_meet_55 (by decide) ?_
              refine fz_il X hW 0 (0) rfl rfl (by omega) (by decide) dL_meet_56 ?_
              refine lv_goto (tgt := 63) hx hb dL_meet_57 (by decide) ?_
              refine fz_is X hW 0 (0) rfl rfl (by omega) (by decide) dL_meet_63 (fun H locs hW => ?_)
              refine lv_iconst (v := 1) hx hb dL_meet_64 (by decide) ?_
              exact fz_ri X (fz_cast (congrArg (fun z => ([(q, .inl (g.2 0, 9, .inl (z)))] : va_W)) (upd_id kn 0)) hW) (hA.symm) dL_meet_65
          · skip
            refine lv_iload_n hx hb dL_meet_28 rfl (lv_at hl 3 rfl) ?_
            refine lv_if_ne (tgt := 48) hx hb dL_meet_29 (by decide) (fun c29 => ?_) (fun c29 => ?_)
            · skip
              refine lv_aload_n hx hb dL_meet_48 rfl (lv_at hl 2 rfl) ?_
              refine lv_iconst (v := 0) hx hb dL_meet_49 (by decide) ?_
              refine lv_iload_n hx hb dL_meet_50 rfl (lv_at hl 3 rfl) ?_
              refine lv_if_eq (tgt := 60) hx hb dL_meet_51 (by decide) (fun c51 => ?_) (fun c51 => ?_)
              · first | exact absurd c51 (by decide) | exact absurd (by decide) c51
              · skip
                refine lv_aload_n hx hb dL_meet_54 rfl (lv_at hl 2 rfl) ?_
                refine lv_iconst (v := 0) hx hb dL_meet_55 (by decide) ?_
                refine fz_il X hW 0 (0) rfl rfl (by omega) (by decide) dL_meet_56 ?_
                refine lv_goto (tgt := 63) hx hb dL_meet_57 (by decide) ?_
                refine fz_is X hW 0 (0) rfl rfl (by omega) (by decide) dL_meet_63 (fun H locs hW => ?_)
                refine lv_iconst (v := 1) hx hb dL_meet_64 (by decide) ?_
                exact fz_ri X (fz_cast (congrArg (fun z => ([(q, .inl (g.2 0, 9, .inl (z)))] : va_W)) (upd_id kn 0)) hW) (hA.symm) dL_meet_65
            · first | exact absurd c29 (by decide) | exact absurd (by decide) c29
        · skip
          refine lv_goto (tgt := 66) hx hb dL_meet_17 (by decide) ?_
          refine lv_iinc (v := nI (i + 1)) (lv' := [(3, .int (nI (i + 1))), (0, .int y), (1, .ref q), (2, .int 1)]) hx hb dL_meet_66 hl (k := 3) rfl (nI_1 _) (by decide) rfl (fun ls hl => ?_)
          refine lv_goto (tgt := 2) hx hb dL_meet_69 (by decide) ?_
          exact ih2 (i + 1) (by omega) (by omega) (by rw [he, show 8 - i = (8 - (i + 1)) + 1 by omega]; exact if_neg c14) _ _ _ (fz_cast (rfl) hW) (lv_sub hl [1, 2, 3, 0] rfl)
  exact loop2 9 0 (by omega) (by omega) rfl _ _ _ (fz_cast (rfl) hW) (lv_sub hl [1, 2, 3, 0] rfl)
set_option maxHeartbeats 4000000 in
set_option maxRecDepth 100000 in
theorem c_L_meetT (l : Launch) (g : GG) (q : Nat) (kn : Nat → Int32) (y : Int32) : fz_C l g yL_meet cL_meet 5 (some .int) 0 0 [.int y, .ref q, .int 0] ([(q, .inl (g.2 0, 9, .inl kn))]) ([(q, .inl (g.2 0, 9, .inl (meK kn (y + 1))))]) (some (.int (meA kn (y + 1)))) := by
  refine fz_C.of (by decide) (Nat.le_of_ble_eq_true rfl) ?_
  intro p e s m args below meth c A ls X hW hl
  have hx := X.1
  have hb := X.2.1
  have hl : lv_has ls 5 [(0, .int y), (1, .ref q), (2, .int 0)] := hl
  have X : fz_X p s m meth c RL cL_meet 5 (some .int) g A := X
  have hW : fz_W g A s ([(q, .inl (g.2 0, 9, .inl kn))]) s.heap [] := hW
  refine lv_iconst (v := 0) hx hb dL_meet_0 (by decide) ?_
  refine lv_istore_n (lv' := [(3, .int 0), (0, .int y), (1, .ref q), (2, .int 0)]) hx hb dL_meet_1 rfl hl (by decide) rfl (fun ls hl => ?_)
  have loop2 : ∀ (k : Nat) (i : Nat), i ≤ 8 → 8 < i + k → fpl kn (y + 1) 0 8 = fpl kn (y + 1) i (8 - i) → ∀ (H : Heap) (locs : List Loc) (ls : Array Slot), fz_W g A s ([(q, .inl (g.2 0, 9, .inl kn))]) H locs → lv_has ls 5 [(0, .int y), (1, .ref q), (2, .int 0), (3, .int (nI i))] → W p l e (fz_R 0 0 0 0) s m args below meth c H locs 0 0 (MQ below (fz_Q g ([(q, .inl (g.2 0, 9, .inl (meK kn (y + 1))))]) (some (.int (meA kn (y + 1)))) A) args s 0 0 A) (F0 m 2 ls []) := by
    intro k
    induction k with
    | zero =>
      intro i hi hk
      omega
    | succ k ih2 =>
      intro i hi hk he H locs ls hW hl
      refine lv_iload_n hx hb dL_meet_2 rfl (lv_at hl 3 rfl) ?_
      refine lv_bipush (v := 8) hx hb dL_meet_3 (by decide) ?_
      refine lv_icmp_ge (tgt := 72) hx hb dL_meet_5 (by decide) (fun c5 => ?_) (fun c5 => ?_)
      · skip
        have h5 : 8 ≤ i := (nI_leI (a := 8) (b := i) (by omega) (by omega)).mp c5
        have hf : fpl kn (y + 1) 0 8 = 8 := by rw [he, show 8 - i = 0 by omega]; show i = 8; omega
        have hA : meA kn (y + 1) = 0 := if_pos hf
        have hN : meN kn (y + 1) = 7 := if_pos hf
        refine lv_bipush (v := 7) hx hb dL_meet_72 (by decide) ?_
        refine lv_istore_n (lv' := [(3, .int 7), (0, .int y), (1, .ref q), (2, .int 0)]) hx hb dL_meet_74 rfl hl (by decide) rfl (fun ls hl => ?_)
        have loop75 : ∀ (k : Nat) (j : Nat), j ≤ 7 → j < k → ∀ (H : Heap) (locs : List Loc) (ls : Array Slot), fz_W g A s ([(q, .inl (g.2 0, 9, .inl (shF kn 7 j)))]) H locs → lv_has ls 5 [(0, .int y), (1, .ref q), (2, .int 0), (3, .int (nI j))] → W p l e (fz_R 0 0 0 0) s m args below meth c H locs 0 0 (MQ below (fz_Q g ([(q, .inl (g.2 0, 9, .inl (meK kn (y + 1))))]) (some (.int (meA kn (y + 1)))) A) args s 0 0 A) (F0 m 75 ls []) := by
          intro k
          induction k with
          | zero =>
            intro j hj hk
            omega
          | succ k ih75 =>
            intro j hj hk H locs ls hW hl
            refine lv_iload_n hx hb dL_meet_75 rfl (lv_at hl 3 rfl) ?_
            refine lv_if_le (tgt := 97) hx hb dL_meet_76 (by decide) (fun c76 => ?_) (fun c76 => ?_)
            · skip
              have hh : j = 0 := by
                have := (nI_leI (a := j) (b := 0) (by omega) (by omega)).mp c76
                omega
              subst hh
              refine lv_aload_n hx hb dL_meet_97 rfl (lv_at hl 1 rfl) ?_
              refine lv_iconst (v := 0) hx hb dL_meet_98 (by decide) ?_
              refine lv_iload_n hx hb dL_meet_99 rfl (lv_at hl 2 rfl) ?_
              refine lv_if_eq (tgt := 109) hx hb dL_meet_100 (by decide) (fun c100 => ?_) (fun c100 => ?_)
              · skip
                refine lv_iload_n hx hb dL_meet_109 rfl (lv_at hl 0 rfl) ?_
                refine lv_iconst (v := 1) hx hb dL_meet_110 (by decide) ?_
                refine lv_iadd hx hb dL_meet_111 ?_
                refine fz_is X hW 0 (0) rfl rfl (by omega) (by decide) dL_meet_112 (fun H locs hW => ?_)
                refine lv_iconst (v := 0) hx hb dL_meet_113 (by decide) ?_
                exact fz_ri X (fz_cast (by unfold meK; rw [hN]; rfl) hW) (hA.symm) dL_meet_114
              · first | exact absurd c100 (by decide) | exact absurd (by decide) c100
            · skip
              obtain ⟨j2, rfl⟩ : ∃ j2, j = j2 + 1 := ⟨j - 1, by
                have hh : ¬ j ≤ 0 := fun z => c76 ((nI_leI (a := j) (b := 0) (by omega) (by omega)).mpr z)
                omega⟩
              refine lv_iload_n hx hb dL_meet_79 rfl (lv_at hl 2 rfl) ?_
              refine lv_if_ne (tgt := 97) hx hb dL_meet_80 (by decide) (fun c80 => ?_) (fun c80 => ?_)
              · first | exact absurd c80 (by decide) | exact absurd (by decide) c80
              · skip
                refine lv_aload_n hx hb dL_meet_83 rfl (lv_at hl 1 rfl) ?_
                refine lv_iload_n hx hb dL_meet_84 rfl (lv_at hl 3 rfl) ?_
                refine lv_aload_n hx hb dL_meet_85 rfl (lv_at hl 1 rfl) ?_
                refine lv_iload_n hx hb dL_meet_86 rfl (lv_at hl 3 rfl) ?_
                refine lv_iconst (v := 1) hx hb dL_meet_87 (by decide) ?_
                refine lv_isub hx hb dL_meet_88 ?_
                refine fz_il X hW 0 (j2) rfl (by exact pk_sub (a := j2 + 1) (b := 1) (by omega)) (by omega) (by decide) dL_meet_89 ?_
                refine fz_is X hW 0 (j2 + 1) rfl rfl (by omega) (by decide) dL_meet_90 (fun H locs hW => ?_)
                refine lv_iinc (v := nI j2) (lv' := [(3, .int (nI j2)), (0, .int y), (1, .ref q), (2, .int 0)]) hx hb dL_meet_91 hl (k := 3) rfl (pk_m1 j2) (by decide) rfl (fun ls hl => ?_)
                refine lv_goto (tgt := 75) hx hb dL_meet_94 (by decide) ?_
                exact ih75 j2 (by omega) (by omega) _ _ _ (fz_cast (congrArg (fun z => ([(q, .inl (g.2 0, 9, .inl (z)))] : va_W)) (shF_s kn 7 j2 (by omega))) hW) (lv_sub hl [1, 2, 3, 0] rfl)
        exact loop75 8 7 (Nat.le_refl _) (Nat.lt_succ_self _) _ _ _ (fz_cast (congrArg (fun z => ([(q, .inl (g.2 0, 9, .inl (z)))] : va_W)) (shF_g kn 7).symm) hW) (lv_sub hl [1, 2, 3, 0] rfl)
      · skip
        have h5 : i < 8 := Nat.not_le.mp (fun z => c5 ((nI_leI (a := 8) (b := i) (by omega) (by omega)).mpr z))
        refine lv_aload_n hx hb dL_meet_8 rfl (lv_at hl 1 rfl) ?_
        refine lv_iload_n hx hb dL_meet_9 rfl (lv_at hl 3 rfl) ?_
        refine fz_il X hW 0 (i) rfl rfl (by omega) (by decide) dL_meet_10 ?_
        refine lv_iload_n hx hb dL_meet_11 rfl (lv_at hl 0 rfl) ?_
        refine lv_iconst (v := 1) hx hb dL_meet_12 (by decide) ?_
        refine lv_iadd hx hb dL_meet_13 ?_
        refine lv_icmp_eq (tgt := 20) hx hb dL_meet_14 (by decide) (fun c14 => ?_) (fun c14 => ?_)
        · skip
          have hf : fpl kn (y + 1) 0 8 = i := by rw [he, show 8 - i = (8 - (i + 1)) + 1 by omega]; exact if_pos c14
          have hA : meA kn (y + 1) = 1 := if_neg (by omega)
          have hN : meN kn (y + 1) = i := (if_neg (by omega)).trans hf
          refine lv_iload_n hx hb dL_meet_20 rfl (lv_at hl 3 rfl) ?_
          refine lv_istore (lv' := [(4, .int (nI i)), (0, .int y), (1, .ref q), (2, .int 0), (3, .int (nI i))]) hx hb dL_meet_21 hl (by decide) rfl (fun ls hl => ?_)
          have loop23 : ∀ (k : Nat) (j : Nat), j ≤ i → j < k → ∀ (H : Heap) (locs : List Loc) (ls : Array Slot), fz_W g A s ([(q, .inl (g.2 0, 9, .inl (shF kn i j)))]) H locs → lv_has ls 5 [(0, .int y), (1, .ref q), (2, .int 0), (3, .int (nI i)), (4, .int (nI j))] → W p l e (fz_R 0 0 0 0) s m args below meth c H locs 0 0 (MQ below (fz_Q g ([(q, .inl (g.2 0, 9, .inl (meK kn (y + 1))))]) (some (.int (meA kn (y + 1)))) A) args s 0 0 A) (F0 m 23 ls []) := by
            intro k
            induction k with
            | zero =>
              intro j hj hk
              omega
            | succ k ih23 =>
              intro j hj hk H locs ls hW hl
              refine lv_iload hx hb dL_meet_23 (lv_at hl 4 rfl) ?_
              refine lv_if_le (tgt := 48) hx hb dL_meet_25 (by decide) (fun c25 => ?_) (fun c25 => ?_)
              · skip
                have hh : j = 0 := by
                  have := (nI_leI (a := j) (b := 0) (by omega) (by omega)).mp c25
                  omega
                subst hh
                refine lv_aload_n hx hb dL_meet_48 rfl (lv_at hl 1 rfl) ?_
                refine lv_iconst (v := 0) hx hb dL_meet_49 (by decide) ?_
                refine lv_iload_n hx hb dL_meet_50 rfl (lv_at hl 2 rfl) ?_
                refine lv_if_eq (tgt := 60) hx hb dL_meet_51 (by decide) (fun c51 => ?_) (fun c51 => ?_)
                · skip
                  refine lv_iload_n hx hb dL_meet_60 rfl (lv_at hl 0 rfl) ?_
                  refine lv_iconst (v := 1) hx hb dL_meet_61 (by decide) ?_
                  refine lv_iadd hx hb dL_meet_62 ?_
                  refine fz_is X hW 0 (0) rfl rfl (by omega) (by decide) dL_meet_63 (fun H locs hW => ?_)
                  refine lv_iconst (v := 1) hx hb dL_meet_64 (by decide) ?_
                  exact fz_ri X (fz_cast (by unfold meK; rw [hN]; rfl) hW) (hA.symm) dL_meet_65
                · first | exact absurd c51 (by decide) | exact absurd (by decide) c51
              · skip
                obtain ⟨j2, rfl⟩ : ∃ j2, j = j2 + 1 := ⟨j - 1, by
                  have hh : ¬ j ≤ 0 := fun z => c25 ((nI_leI (a := j) (b := 0) (by omega) (by omega)).mpr z)
                  omega⟩
                refine lv_iload_n hx hb dL_meet_28 rfl (lv_at hl 2 rfl) ?_
                refine lv_if_ne (tgt := 48) hx hb dL_meet_29 (by decide) (fun c29 => ?_) (fun c29 => ?_)
                · first | exact absurd c29 (by decide) | exact absurd (by decide) c29
                · skip
                  refine lv_aload_n hx hb dL_meet_32 rfl (lv_at hl 1 rfl) ?_
                  refine lv_iload hx hb dL_meet_33 (lv_at hl 4 rfl) ?_
                  refine lv_aload_n hx hb dL_meet_35 rfl (lv_at hl 1 rfl) ?_
                  refine lv_iload hx hb dL_meet_36 (lv_at hl 4 rfl) ?_
                  refine lv_iconst (v := 1) hx hb dL_meet_38 (by decide) ?_
                  refine lv_isub hx hb dL_meet_39 ?_
                  refine fz_il X hW 0 (j2) rfl (by exact pk_sub (a := j2 + 1) (b := 1) (by omega)) (by omega) (by decide) dL_meet_40 ?_
                  refine fz_is X hW 0 (j2 + 1) rfl rfl (by omega) (by decide) dL_meet_41 (fun H locs hW => ?_)
                  refine lv_iinc (v := nI j2) (lv' := [(4, .int (nI j2)), (0, .int y), (1, .ref q), (2, .int 0), (3, .int (nI i))]) hx hb dL_meet_42 hl (k := 4) rfl (pk_m1 j2) (by decide) rfl (fun ls hl => ?_)
                  refine lv_goto (tgt := 23) hx hb dL_meet_45 (by decide) ?_
                  exact ih23 j2 (by omega) (by omega) _ _ _ (fz_cast (congrArg (fun z => ([(q, .inl (g.2 0, 9, .inl (z)))] : va_W)) (shF_s kn i j2 (by omega))) hW) (lv_sub hl [1, 2, 3, 4, 0] rfl)
          exact loop23 (i + 1) i (Nat.le_refl _) (Nat.lt_succ_self _) _ _ _ (fz_cast (congrArg (fun z => ([(q, .inl (g.2 0, 9, .inl (z)))] : va_W)) (shF_g kn i).symm) hW) (lv_sub hl [1, 2, 3, 4, 0] rfl)
        · skip
          refine lv_goto (tgt := 66) hx hb dL_meet_17 (by decide) ?_
          refine lv_iinc (v := nI (i + 1)) (lv' := [(3, .int (nI (i + 1))), (0, .int y), (1, .ref q), (2, .int 0)]) hx hb dL_meet_66 hl (k := 3) rfl (nI_1 _) (by decide) rfl (fun ls hl => ?_)
          refine lv_goto (tgt := 2) hx hb dL_meet_69 (by decide) ?_
          exact ih2 (i + 1) (by omega) (by omega) (by rw [he, show 8 - i = (8 - (i + 1)) + 1 by omega]; exact if_neg c14) _ _ _ (fz_cast (rfl) hW) (lv_sub hl [1, 2, 3, 0] rfl)
  exact loop2 9 0 (by omega) (by omega) rfl _ _ _ (fz_cast (rfl) hW) (lv_sub hl [1, 2, 3, 0] rfl)
end
section
/-! sets and counts of unlike tiles; what a step spends (no machine here; rows of whole) -/
def muL (f : Nat → Int32) : Nat → Int64
  | 0 => 0
  | t + 1 => if f t = -1 then muL f t else muL f t ||| (1 <<< ((nI t).toInt64 &&& 63))
theorem us_mu (v : SV) : ∀ t, usF v t = muL v.since t := by
  intro t
  induction t with
  | zero => rfl
  | succ t ih =>
    show (if v.since t = -1 then usF v t else usF v t ||| (1 <<< ((nI t).toInt64 &&& 63))) = (if v.since t = -1 then muL v.since t else muL v.since t ||| (1 <<< ((nI t).toInt64 &&& 63)))
    rw [ih]
def bnF (f : Nat → Int32) : Nat → Nat
  | 0 => 0
  | t + 1 => bnF f t + (if f t = -1 then 0 else 1)
theorem bnF_le (f : Nat → Int32) : ∀ t, bnF f t ≤ t := by
  intro t
  induction t with
  | zero => exact Nat.le_refl _
  | succ t ih =>
    show bnF f t + (if f t = -1 then 0 else 1) ≤ t + 1
    split <;> omega
theorem zz_andL (a b : Nat) : lN a &&& lN b = lN (a &&& b) := by
  apply Int64.toBitVec_inj.1
  show BitVec.ofNat 64 a &&& BitVec.ofNat 64 b = BitVec.ofNat 64 (a &&& b)
  apply BitVec.eq_of_getLsbD_eq
  intro i hi
  simp [hi]
theorem zz_orL (a b : Nat) : lN a ||| lN b = lN (a ||| b) := by
  apply Int64.toBitVec_inj.1
  show BitVec.ofNat 64 a ||| BitVec.ofNat 64 b = BitVec.ofNat 64 (a ||| b)
  apply BitVec.eq_of_getLsbD_eq
  intro i hi
  simp [hi]
theorem zz_andI (a b : Nat) : nI a &&& nI b = nI (a &&& b) := by
  apply Int32.toBitVec_inj.1
  show BitVec.ofNat 32 a &&& BitVec.ofNat 32 b = BitVec.ofNat 32 (a &&& b)
  apply BitVec.eq_of_getLsbD_eq
  intro i hi
  simp [hi]
theorem zz_ushL (a k p : Nat) (s : Int32) (hy : (s.toInt64.toUInt64 &&& Int64.toUInt64 63).toNat % 64 = k) (hp : 2 ^ k = p) (ha : a < 2 ^ 64) : ushL (lN a) s = lN (a / p) := by
  unfold ushL
  apply Int64.toBitVec_inj.1
  apply BitVec.eq_of_toNat_eq
  show ((UInt64.ofNat a) >>> (s.toInt64.toUInt64 &&& Int64.toUInt64 63)).toNat = (UInt64.ofNat (a / p)).toNat
  rw [UInt64.toNat_shiftRight, hy, UInt64.toNat_ofNat', UInt64.toNat_ofNat', Nat.mod_eq_of_lt ha, Nat.shiftRight_eq_div_pow, hp, Nat.mod_eq_of_lt (Nat.lt_of_le_of_lt (Nat.div_le_self _ _) ha)]
theorem and_sp {k a c : Nat} (b d : Nat) (ha : a < 2 ^ k) (hc : c < 2 ^ k) : (2 ^ k * b + a) &&& (2 ^ k * d + c) = 2 ^ k * (b &&& d) + (a &&& c) := by
  apply Nat.eq_of_testBit_eq
  intro j
  have hac : a &&& c < 2 ^ k := Nat.lt_of_le_of_lt Nat.and_le_left ha
  rw [Nat.testBit_and, Nat.testBit_two_pow_mul_add _ ha, Nat.testBit_two_pow_mul_add _ hc, Nat.testBit_two_pow_mul_add _ hac]
  by_cases h : j < k
  · rw [if_pos h, if_pos h, if_pos h, Nat.testBit_and]
  · rw [if_neg h, if_neg h, if_neg h, Nat.testBit_and]
def zs1 (M n : Nat) : Nat := n - (n / 2 &&& M)
def zs2 (M n : Nat) : Nat := (n &&& M) + (n / 4 &&& M)
def zs3 (M n : Nat) : Nat := (n + n / 16) &&& M
def zp1 (a : Nat) : Nat := a - (a / 2 &&& 85)
def zp2 (a : Nat) : Nat := (a &&& 51) + (a / 4 &&& 51)
def zp3 (a : Nat) : Nat := (a + a / 16) &&& 15
set_option maxRecDepth 100000 in
theorem zc1 : ∀ (r : Fin 2) (a : Fin 256), (128 * r.val + a.val / 2) &&& 85 = a.val / 2 &&& 85 := by decide +kernel
set_option maxRecDepth 100000 in
theorem zc2 : ∀ (r : Fin 4) (a : Fin 256), (64 * r.val + a.val / 4) &&& 51 = a.val / 4 &&& 51 := by decide +kernel
set_option maxRecDepth 100000 in
theorem zc3 : ∀ (r : Fin 5) (a : Fin 69), (16 * r.val + a.val + a.val / 16) &&& 15 = zp3 a.val := by decide +kernel
set_option maxRecDepth 100000 in
theorem zc4 : ∀ a : Fin 256, zp1 a.val < 256 ∧ zp2 (zp1 a.val) ≤ 68 ∧ zp2 (zp1 a.val) % 16 ≤ 4 := by decide +kernel
theorem z1 (M b a : Nat) (ha : a < 256) : zs1 (256 * M + 85) (256 * b + a) = 256 * zs1 M b + zp1 a := by
  have e : (256 * b + a) / 2 = 256 * (b / 2) + (128 * (b % 2) + a / 2) := by omega
  have h := and_sp (k := 8) (b / 2) M (a := 128 * (b % 2) + a / 2) (c := 85) (by omega) (by omega)
  have q : (128 * (b % 2) + a / 2) &&& 85 = a / 2 &&& 85 := zc1 ⟨b % 2, Nat.mod_lt _ (by omega)⟩ ⟨a, ha⟩
  have l1 : (b / 2 &&& M) ≤ b / 2 := Nat.and_le_left
  have l2 : (a / 2 &&& 85) ≤ a / 2 := Nat.and_le_left
  have h : (256 * (b / 2) + (128 * (b % 2) + a / 2)) &&& (256 * M + 85) = 256 * (b / 2 &&& M) + ((128 * (b % 2) + a / 2) &&& 85) := h
  unfold zs1 zp1
  rw [e, h, q]
  omega
theorem z2 (M b a : Nat) (ha : a < 256) : zs2 (256 * M + 51) (256 * b + a) = 256 * zs2 M b + zp2 a := by
  have e : (256 * b + a) / 4 = 256 * (b / 4) + (64 * (b % 4) + a / 4) := by omega
  have h1 : (256 * b + a) &&& (256 * M + 51) = 256 * (b &&& M) + (a &&& 51) := and_sp (k := 8) b M (a := a) (c := 51) (by omega) (by omega)
  have h : (256 * (b / 4) + (64 * (b % 4) + a / 4)) &&& (256 * M + 51) = 256 * (b / 4 &&& M) + ((64 * (b % 4) + a / 4) &&& 51) := and_sp (k := 8) (b / 4) M (a := 64 * (b % 4) + a / 4) (c := 51) (by omega) (by omega)
  have q : (64 * (b % 4) + a / 4) &&& 51 = a / 4 &&& 51 := zc2 ⟨b % 4, Nat.mod_lt _ (by omega)⟩ ⟨a, ha⟩
  unfold zs2 zp2
  rw [e, h, h1, q]
  omega
theorem z3 (M b a : Nat) (ha : a ≤ 68) (hb : b % 16 ≤ 4) : zs3 (256 * M + 15) (256 * b + a) = 256 * zs3 M b + zp3 a := by
  have e : 256 * b + a + (256 * b + a) / 16 = 256 * (b + b / 16) + (16 * (b % 16) + a + a / 16) := by omega
  have h : (256 * (b + b / 16) + (16 * (b % 16) + a + a / 16)) &&& (256 * M + 15) = 256 * ((b + b / 16) &&& M) + ((16 * (b % 16) + a + a / 16) &&& 15) := and_sp (k := 8) (b + b / 16) M (a := 16 * (b % 16) + a + a / 16) (c := 15) (by omega) (by omega)
  have q : (16 * (b % 16) + a + a / 16) &&& 15 = zp3 a := zc3 ⟨b % 16, by omega⟩ ⟨a, by omega⟩
  unfold zs3
  rw [e, h, q]
def zS (M1 M2 M3 n : Nat) : Nat := zs3 M3 (zs2 M2 (zs1 M1 n))
def zB (a : Nat) : Nat := zp3 (zp2 (zp1 a))
theorem zstep (M1 M2 M3 b a : Nat) (ha : a < 256) (hb : zs2 M2 (zs1 M1 b) % 16 ≤ 4) : zS (256 * M1 + 85) (256 * M2 + 51) (256 * M3 + 15) (256 * b + a) = 256 * zS M1 M2 M3 b + zB a ∧ zs2 (256 * M2 + 51) (zs1 (256 * M1 + 85) (256 * b + a)) % 16 ≤ 4 := by
  obtain ⟨k1, k2, k3⟩ := zc4 ⟨a, ha⟩
  have k1 : zp1 a < 256 := k1
  have k2 : zp2 (zp1 a) ≤ 68 := k2
  have k3 : zp2 (zp1 a) % 16 ≤ 4 := k3
  have e : zs2 (256 * M2 + 51) (zs1 (256 * M1 + 85) (256 * b + a)) = 256 * zs2 M2 (zs1 M1 b) + zp2 (zp1 a) := by rw [z1 _ _ _ ha, z2 _ _ _ k1]
  refine ⟨?_, by rw [e]; omega⟩
  unfold zS
  rw [e, z3 _ _ _ k2 hb]
  rfl
theorem zS0 (M1 M2 M3 : Nat) : zS M1 M2 M3 0 = 0 ∧ zs2 M2 (zs1 M1 0) = 0 := by
  have h : ∀ M : Nat, 0 &&& M = 0 := fun M => Nat.zero_and M
  have e1 : zs1 M1 0 = 0 := by
    unfold zs1
    exact Nat.zero_sub _
  have e2 : zs2 M2 0 = 0 := by
    unfold zs2
    show (0 &&& M2) + (0 &&& M2) = 0
    rw [h]
  refine ⟨?_, by rw [e1, e2]⟩
  unfold zS
  rw [e1, e2]
  exact h M3
def eqF (f : Nat → Int32) (t : Nat) : Nat := if f t = -1 then 0 else 1
theorem eqF_lt (f : Nat → Int32) (t : Nat) : eqF f t < 2 := by
  unfold eqF
  split <;> omega
def bqF (f : Nat → Int32) : Nat → Nat
  | 0 => 0
  | t + 1 => 2 ^ t * eqF f t + bqF f t
theorem bqF_lt (f : Nat → Int32) : ∀ t, bqF f t < 2 ^ t := by
  intro t
  induction t with
  | zero => exact Nat.zero_lt_one
  | succ t ih =>
    show 2 ^ t * eqF f t + bqF f t < 2 ^ (t + 1)
    have h := eqF_lt f t
    rw [Nat.pow_succ]
    rcases (show eqF f t = 0 ∨ eqF f t = 1 by omega) with q | q <;> rw [q] <;> omega
set_option maxRecDepth 100000 in
theorem shl_all : ∀ t : Fin 48, (1 : Int64) <<< ((nI t.val).toInt64 &&& 63) = lN (2 ^ t.val) := by decide +kernel
theorem mu_bq (f : Nat → Int32) : ∀ t, t ≤ 48 → muL f t = lN (bqF f t) := by
  intro t
  induction t with
  | zero => intro _; rfl
  | succ t ih =>
    intro ht
    show (if f t = -1 then muL f t else muL f t ||| (1 <<< ((nI t).toInt64 &&& 63))) = lN (2 ^ t * eqF f t + bqF f t)
    rw [ih (by omega)]
    unfold eqF
    by_cases h : f t = -1
    · rw [if_pos h, if_pos h, Nat.mul_zero, Nat.zero_add]
    · have e : (1 : Int64) <<< ((nI t).toInt64 &&& 63) = lN (2 ^ t) := shl_all ⟨t, by omega⟩
      rw [if_neg h, if_neg h, e, zz_orL, Nat.or_comm, Nat.two_pow_add_eq_or_of_lt (bqF_lt f t), Nat.mul_one]
def by8 (f : Nat → Int32) (s : Nat) : Nat := 1 * eqF f (s + 0) + 2 * eqF f (s + 1) + 4 * eqF f (s + 2) + 8 * eqF f (s + 3) + 16 * eqF f (s + 4) + 32 * eqF f (s + 5) + 64 * eqF f (s + 6) + 128 * eqF f (s + 7)
def sm8 (f : Nat → Int32) (s : Nat) : Nat := eqF f (s + 0) + eqF f (s + 1) + eqF f (s + 2) + eqF f (s + 3) + eqF f (s + 4) + eqF f (s + 5) + eqF f (s + 6) + eqF f (s + 7)
theorem bq_0 (f : Nat → Int32) : bqF f 8 = 1 * by8 f 0 + bqF f 0 := by
  have h : bqF f 8 = (2 ^ 7 * eqF f 7 + (2 ^ 6 * eqF f 6 + (2 ^ 5 * eqF f 5 + (2 ^ 4 * eqF f 4 + (2 ^ 3 * eqF f 3 + (2 ^ 2 * eqF f 2 + (2 ^ 1 * eqF f 1 + (2 ^ 0 * eqF f 0 + bqF f 0)))))))) := rfl
  rw [h]
  unfold by8
  simp only [Nat.reducePow, Nat.reduceAdd, Nat.zero_add, Nat.add_zero]
  omega
theorem bn_0 (f : Nat → Int32) : bnF f 8 = bnF f 0 + sm8 f 0 := by
  have h : bnF f 8 = ((((((((bnF f 0 + eqF f 0) + eqF f 1) + eqF f 2) + eqF f 3) + eqF f 4) + eqF f 5) + eqF f 6) + eqF f 7) := rfl
  rw [h]
  unfold sm8
  simp only [Nat.reduceAdd, Nat.zero_add, Nat.add_zero]
  omega
theorem bq_8 (f : Nat → Int32) : bqF f 16 = 256 * by8 f 8 + bqF f 8 := by
  have h : bqF f 16 = (2 ^ 15 * eqF f 15 + (2 ^ 14 * eqF f 14 + (2 ^ 13 * eqF f 13 + (2 ^ 12 * eqF f 12 + (2 ^ 11 * eqF f 11 + (2 ^ 10 * eqF f 10 + (2 ^ 9 * eqF f 9 + (2 ^ 8 * eqF f 8 + bqF f 8)))))))) := rfl
  rw [h]
  unfold by8
  simp only [Nat.reducePow, Nat.reduceAdd, Nat.zero_add, Nat.add_zero]
  omega
theorem bn_8 (f : Nat → Int32) : bnF f 16 = bnF f 8 + sm8 f 8 := by
  have h : bnF f 16 = ((((((((bnF f 8 + eqF f 8) + eqF f 9) + eqF f 10) + eqF f 11) + eqF f 12) + eqF f 13) + eqF f 14) + eqF f 15) := rfl
  rw [h]
  unfold sm8
  simp only [Nat.reduceAdd, Nat.zero_add, Nat.add_zero]
  omega
theorem bq_16 (f : Nat → Int32) : bqF f 24 = 65536 * by8 f 16 + bqF f 16 := by
  have h : bqF f 24 = (2 ^ 23 * eqF f 23 + (2 ^ 22 * eqF f 22 + (2 ^ 21 * eqF f 21 + (2 ^ 20 * eqF f 20 + (2 ^ 19 * eqF f 19 + (2 ^ 18 * eqF f 18 + (2 ^ 17 * eqF f 17 + (2 ^ 16 * eqF f 16 + bqF f 16)))))))) := rfl
  rw [h]
  unfold by8
  simp only [Nat.reducePow, Nat.reduceAdd, Nat.zero_add, Nat.add_zero]
  omega
theorem bn_16 (f : Nat → Int32) : bnF f 24 = bnF f 16 + sm8 f 16 := by
  have h : bnF f 24 = ((((((((bnF f 16 + eqF f 16) + eqF f 17) + eqF f 18) + eqF f 19) + eqF f 20) + eqF f 21) + eqF f 22) + eqF f 23) := rfl
  rw [h]
  unfold sm8
  simp only [Nat.reduceAdd, Nat.zero_add, Nat.add_zero]
  omega
theorem bq_24 (f : Nat → Int32) : bqF f 32 = 16777216 * by8 f 24 + bqF f 24 := by
  have h : bqF f 32 = (2 ^ 31 * eqF f 31 + (2 ^ 30 * eqF f 30 + (2 ^ 29 * eqF f 29 + (2 ^ 28 * eqF f 28 + (2 ^ 27 * eqF f 27 + (2 ^ 26 * eqF f 26 + (2 ^ 25 * eqF f 25 + (2 ^ 24 * eqF f 24 + bqF f 24)))))))) := rfl
  rw [h]
  unfold by8
  simp only [Nat.reducePow, Nat.reduceAdd, Nat.zero_add, Nat.add_zero]
  omega
theorem bn_24 (f : Nat → Int32) : bnF f 32 = bnF f 24 + sm8 f 24 := by
  have h : bnF f 32 = ((((((((bnF f 24 + eqF f 24) + eqF f 25) + eqF f 26) + eqF f 27) + eqF f 28) + eqF f 29) + eqF f 30) + eqF f 31) := rfl
  rw [h]
  unfold sm8
  simp only [Nat.reduceAdd, Nat.zero_add, Nat.add_zero]
  omega
theorem bq_32 (f : Nat → Int32) : bqF f 40 = 4294967296 * by8 f 32 + bqF f 32 := by
  have h : bqF f 40 = (2 ^ 39 * eqF f 39 + (2 ^ 38 * eqF f 38 + (2 ^ 37 * eqF f 37 + (2 ^ 36 * eqF f 36 + (2 ^ 35 * eqF f 35 + (2 ^ 34 * eqF f 34 + (2 ^ 33 * eqF f 33 + (2 ^ 32 * eqF f 32 + bqF f 32)))))))) := rfl
  rw [h]
  unfold by8
  simp only [Nat.reducePow, Nat.reduceAdd, Nat.zero_add, Nat.add_zero]
  omega
theorem bn_32 (f : Nat → Int32) : bnF f 40 = bnF f 32 + sm8 f 32 := by
  have h : bnF f 40 = ((((((((bnF f 32 + eqF f 32) + eqF f 33) + eqF f 34) + eqF f 35) + eqF f 36) + eqF f 37) + eqF f 38) + eqF f 39) := rfl
  rw [h]
  unfold sm8
  simp only [Nat.reduceAdd, Nat.zero_add, Nat.add_zero]
  omega
theorem bq_40 (f : Nat → Int32) : bqF f 48 = 1099511627776 * by8 f 40 + bqF f 40 := by
  have h : bqF f 48 = (2 ^ 47 * eqF f 47 + (2 ^ 46 * eqF f 46 + (2 ^ 45 * eqF f 45 + (2 ^ 44 * eqF f 44 + (2 ^ 43 * eqF f 43 + (2 ^ 42 * eqF f 42 + (2 ^ 41 * eqF f 41 + (2 ^ 40 * eqF f 40 + bqF f 40)))))))) := rfl
  rw [h]
  unfold by8
  simp only [Nat.reducePow, Nat.reduceAdd, Nat.zero_add, Nat.add_zero]
  omega
theorem bn_40 (f : Nat → Int32) : bnF f 48 = bnF f 40 + sm8 f 40 := by
  have h : bnF f 48 = ((((((((bnF f 40 + eqF f 40) + eqF f 41) + eqF f 42) + eqF f 43) + eqF f 44) + eqF f 45) + eqF f 46) + eqF f 47) := rfl
  rw [h]
  unfold sm8
  simp only [Nat.reduceAdd, Nat.zero_add, Nat.add_zero]
  omega
theorem bqF_48 (f : Nat → Int32) : bqF f 48 = 256 * (256 * (256 * (256 * (256 * (by8 f 40) + by8 f 32) + by8 f 24) + by8 f 16) + by8 f 8) + by8 f 0 := by
  have h : bqF f 0 = 0 := rfl
  rw [bq_40, bq_32, bq_24, bq_16, bq_8, bq_0, h]
  omega
theorem bnF_48 (f : Nat → Int32) : bnF f 48 = sm8 f 0 + sm8 f 8 + sm8 f 16 + sm8 f 24 + sm8 f 32 + sm8 f 40 := by
  have h : bnF f 0 = 0 := rfl
  rw [bn_40, bn_32, bn_24, bn_16, bn_8, bn_0, h, Nat.zero_add]
set_option maxRecDepth 100000 in
theorem zB_all : ∀ x0 x1 x2 x3 x4 x5 x6 x7 : Fin 2, zB (1 * x0.val + 2 * x1.val + 4 * x2.val + 8 * x3.val + 16 * x4.val + 32 * x5.val + 64 * x6.val + 128 * x7.val) = x0.val + x1.val + x2.val + x3.val + x4.val + x5.val + x6.val + x7.val := by decide +kernel
theorem zB_by (f : Nat → Int32) (s : Nat) : zB (by8 f s) = sm8 f s := zB_all ⟨eqF f (s + 0), eqF_lt _ _⟩ ⟨eqF f (s + 1), eqF_lt _ _⟩ ⟨eqF f (s + 2), eqF_lt _ _⟩ ⟨eqF f (s + 3), eqF_lt _ _⟩ ⟨eqF f (s + 4), eqF_lt _ _⟩ ⟨eqF f (s + 5), eqF_lt _ _⟩ ⟨eqF f (s + 6), eqF_lt _ _⟩ ⟨eqF f (s + 7), eqF_lt _ _⟩
theorem by8_lt (f : Nat → Int32) (s : Nat) : by8 f s < 256 := by
  have h0 := eqF_lt f (s + 0)
  have h1 := eqF_lt f (s + 1)
  have h2 := eqF_lt f (s + 2)
  have h3 := eqF_lt f (s + 3)
  have h4 := eqF_lt f (s + 4)
  have h5 := eqF_lt f (s + 5)
  have h6 := eqF_lt f (s + 6)
  have h7 := eqF_lt f (s + 7)
  unfold by8
  omega
theorem sm8_le (f : Nat → Int32) (s : Nat) : sm8 f s ≤ 8 := by
  have h0 := eqF_lt f (s + 0)
  have h1 := eqF_lt f (s + 1)
  have h2 := eqF_lt f (s + 2)
  have h3 := eqF_lt f (s + 3)
  have h4 := eqF_lt f (s + 4)
  have h5 := eqF_lt f (s + 5)
  have h6 := eqF_lt f (s + 6)
  have h7 := eqF_lt f (s + 7)
  unfold sm8
  omega
set_option maxRecDepth 100000 in
theorem zall (a0 a1 a2 a3 a4 a5 : Nat) (q0 : a0 < 256) (q1 : a1 < 256) (q2 : a2 < 256) (q3 : a3 < 256) (q4 : a4 < 256) (q5 : a5 < 256) : zS 6148914691236517205 3689348814741910323 1085102592571150095 (256 * (256 * (256 * (256 * (256 * (a5) + a4) + a3) + a2) + a1) + a0) = 256 * (256 * (256 * (256 * (256 * (zB a5) + zB a4) + zB a3) + zB a2) + zB a1) + zB a0 := by
  have h5 := zstep (21845) (13107) (3855) (0) a5 q5 (by rw [(zS0 21845 13107 3855).2]; omega)
  have h4 := zstep (256 * (21845) + 85) (256 * (13107) + 51) (256 * (3855) + 15) (256 * (0) + a5) a4 q4 h5.2
  have h3 := zstep (256 * (256 * (21845) + 85) + 85) (256 * (256 * (13107) + 51) + 51) (256 * (256 * (3855) + 15) + 15) (256 * (256 * (0) + a5) + a4) a3 q3 h4.2
  have h2 := zstep (256 * (256 * (256 * (21845) + 85) + 85) + 85) (256 * (256 * (256 * (13107) + 51) + 51) + 51) (256 * (256 * (256 * (3855) + 15) + 15) + 15) (256 * (256 * (256 * (0) + a5) + a4) + a3) a2 q2 h3.2
  have h1 := zstep (256 * (256 * (256 * (256 * (21845) + 85) + 85) + 85) + 85) (256 * (256 * (256 * (256 * (13107) + 51) + 51) + 51) + 51) (256 * (256 * (256 * (256 * (3855) + 15) + 15) + 15) + 15) (256 * (256 * (256 * (256 * (0) + a5) + a4) + a3) + a2) a1 q1 h2.2
  have h0 := zstep (256 * (256 * (256 * (256 * (256 * (21845) + 85) + 85) + 85) + 85) + 85) (256 * (256 * (256 * (256 * (256 * (13107) + 51) + 51) + 51) + 51) + 51) (256 * (256 * (256 * (256 * (256 * (3855) + 15) + 15) + 15) + 15) + 15) (256 * (256 * (256 * (256 * (256 * (0) + a5) + a4) + a3) + a2) + a1) a0 q0 h1.2
  have e0 : 256 * 0 + a5 = a5 := by omega
  have e := h0.1
  rw [h1.1, h2.1, h3.1, h4.1, h5.1, (zS0 21845 13107 3855).1, e0] at e
  have e9 : 256 * 0 + zB a5 = zB a5 := by omega
  rw [e9] at e
  exact e
theorem zb1 (x : Nat) (hx : x < 2 ^ 60) : bl1 (lN x) = lN (zs1 6148914691236517205 x) := by
  unfold bl1 zs1
  rw [zz_ushL x 1 2 1 (by decide) rfl (by omega), show (6148914691236517205 : Int64) = lN 6148914691236517205 from rfl, zz_andL]
  exact lN_sub (Nat.le_trans Nat.and_le_left (Nat.div_le_self _ _))
theorem zb2 (x : Nat) (hx : x < 2 ^ 60) : bl2 (lN x) = lN (zs2 3689348814741910323 x) := by
  unfold bl2 zs2
  rw [zz_ushL x 2 4 2 (by decide) rfl (by omega), show (3689348814741910323 : Int64) = lN 3689348814741910323 from rfl, zz_andL, zz_andL, lN_add]
theorem zb3 (x : Nat) (hx : x < 2 ^ 60) : bl3 (lN x) = lN (zs3 1085102592571150095 x) := by
  unfold bl3 zs3
  rw [zz_ushL x 4 16 4 (by decide) rfl (by omega), lN_add, show (1085102592571150095 : Int64) = lN 1085102592571150095 from rfl, zz_andL]
theorem zb4 (x : Nat) (hx : x < 2 ^ 60) : bl4 (lN x) = lN (x + x / 256) := by
  unfold bl4
  rw [zz_ushL x 8 256 8 (by decide) rfl (by omega), lN_add]
theorem zb5 (x : Nat) (hx : x < 2 ^ 60) : bl5 (lN x) = lN (x + x / 65536) := by
  unfold bl5
  rw [zz_ushL x 16 65536 16 (by decide) rfl (by omega), lN_add]
theorem zb6 (x : Nat) (hx : x < 2 ^ 60) : bl6 (lN x) = lN (x + x / 4294967296) := by
  unfold bl6
  rw [zz_ushL x 32 4294967296 32 (by decide) rfl (by omega), lN_add]
theorem bcL_bq (f : Nat → Int32) : bcL (lN (bqF f 48)) = nI (bnF f 48) := by
  have hn : bqF f 48 < 2 ^ 48 := bqF_lt f 48
  have l1 : zs1 6148914691236517205 (bqF f 48) ≤ bqF f 48 := Nat.sub_le _ _
  have l2 : zs2 3689348814741910323 (zs1 6148914691236517205 (bqF f 48)) ≤ zs1 6148914691236517205 (bqF f 48) + zs1 6148914691236517205 (bqF f 48) / 4 := Nat.add_le_add Nat.and_le_left Nat.and_le_left
  have hS : zS 6148914691236517205 3689348814741910323 1085102592571150095 (bqF f 48) = 256 * (256 * (256 * (256 * (256 * (sm8 f 40) + sm8 f 32) + sm8 f 24) + sm8 f 16) + sm8 f 8) + sm8 f 0 := by
    rw [bqF_48, zall _ _ _ _ _ _ (by8_lt f 0) (by8_lt f 8) (by8_lt f 16) (by8_lt f 24) (by8_lt f 32) (by8_lt f 40), zB_by, zB_by, zB_by, zB_by, zB_by, zB_by]
  have hS : zs3 1085102592571150095 (zs2 3689348814741910323 (zs1 6148914691236517205 (bqF f 48))) = 256 * (256 * (256 * (256 * (256 * (sm8 f 40) + sm8 f 32) + sm8 f 24) + sm8 f 16) + sm8 f 8) + sm8 f 0 := hS
  have k0 := sm8_le f 0
  have k1 := sm8_le f 8
  have k2 := sm8_le f 16
  have k3 := sm8_le f 24
  have k4 := sm8_le f 32
  have k5 := sm8_le f 40
  unfold bcL
  rw [zb1 _ (by omega), zb2 _ (by omega), zb3 _ (by omega), hS, bnF_48]
  generalize sm8 f 0 = s0 at *
  generalize sm8 f 8 = s1 at *
  generalize sm8 f 16 = s2 at *
  generalize sm8 f 24 = s3 at *
  generalize sm8 f 32 = s4 at *
  generalize sm8 f 40 = s5 at *
  rw [zb4 _ (by omega), zb5 _ (by omega), zb6 _ (by omega), lN_i, show (127 : Int32) = nI 127 from rfl, zz_andI, show ∀ a : Nat, a &&& 127 = a % 128 from fun a => Nat.and_two_pow_sub_one_eq_mod a 7]
  have d1 : (256 * (256 * (256 * (256 * (256 * (s5) + s4) + s3) + s2) + s1) + s0) / 256 = (256 * (256 * (256 * (256 * (s5) + s4) + s3) + s2) + s1) := by omega
  rw [d1]
  have d2 : (256 * (256 * (256 * (256 * (256 * (s5) + s4) + s3) + s2) + s1) + s0 + (256 * (256 * (256 * (256 * (s5) + s4) + s3) + s2) + s1)) / 65536 = (256 * (256 * (256 * (s5) + s4) + s3) + s2) + (256 * (256 * (s5) + s4) + s3) := by omega
  rw [d2]
  have d3 : (256 * (256 * (256 * (256 * (256 * (s5) + s4) + s3) + s2) + s1) + s0 + (256 * (256 * (256 * (256 * (s5) + s4) + s3) + s2) + s1) + ((256 * (256 * (256 * (s5) + s4) + s3) + s2) + (256 * (256 * (s5) + s4) + s3))) / 4294967296 = (256 * (s5) + s4) + s5 := by omega
  rw [d3]
  congr 1
  omega
theorem nI_m1 {g : Nat} (hg : g < 2 ^ 31) : ¬ nI g = -1 := by
  intro z
  have h : ¬ nI g < 0 := Int32.not_lt.mpr ((nI_leI (a := 0) (b := g) (by omega) hg).mpr (Nat.zero_le _))
  rw [z] at h
  exact h (by decide)
theorem muL_cong {f g : Nat → Int32} : ∀ t, (∀ j, j < t → f j = g j) → muL f t = muL g t := by
  intro t
  induction t with
  | zero => intro _; rfl
  | succ t ih =>
    intro h
    show (if f t = -1 then muL f t else muL f t ||| (1 <<< ((nI t).toInt64 &&& 63))) = (if g t = -1 then muL g t else muL g t ||| (1 <<< ((nI t).toInt64 &&& 63)))
    rw [h t (by omega), ih (fun j hj => h j (by omega))]
set_option maxRecDepth 100000 in
theorem sh_all : ∀ k : Fin 256, (nI k.val) <<< ((1 : Int32) &&& 31) &&& 255 = nI (2 * k.val % 256) := by decide +kernel
theorem stR_cost (v : SV) (t : Nat) (x : Int32) : (stR v t x).1 = if plcF v.kp (v.near t) 0 v.kc = -1 then (if kdI v t = 2 then (if x < 2 then 0 else if v.far t = roI v t then 0 else 2) else if x < wcI (v.near t) then 0 else wcI (v.near t)) else if x < 1 then 0 else 1 := by
  unfold stR srR spR
  split
  · split
    · split
      · rfl
      · split <;> rfl
    · split <;> rfl
  · split <;> rfl
theorem i_d0 {c d : Nat} {x : Int32} (hc : c < 2 ^ 31) (hd : 0 < d) (hd2 : d < 2 ^ 31) (e : x = nI d) : (nI c < x → (0 : Int32) = nI 0) ∧ (¬ nI c < x → d ≤ c) := by
  refine ⟨fun _ => rfl, fun h => ?_⟩
  rw [e] at h
  exact Nat.not_lt.mp (fun z => h ((nI_ltI hc hd2).mpr z))
theorem wc_nat (x : Int32) : ∃ d, 0 < d ∧ d < 10 ∧ wcI x = nI d := by
  unfold wcI
  split
  · exact ⟨2, by omega, by omega, rfl⟩
  · exact ⟨6, by omega, by omega, rfl⟩
theorem spR_d (v : SV) (t w : Nat) {cost : Int32} {c : Nat} (hc : c < 2 ^ 31) (hd : ∃ d, 0 < d ∧ d < 10 ∧ cost = nI d) : ∃ d, d ≤ c ∧ (spR v t w cost (nI c)).1 = nI d ∧ (d = 0 → (spR v t w cost (nI c)).2 = v) := by
  obtain ⟨d, d0, d1, e⟩ := hd
  unfold spR
  by_cases z : nI c < cost
  · rw [if_pos z]
    exact ⟨0, Nat.zero_le _, rfl, fun _ => rfl⟩
  · rw [if_neg z]
    exact ⟨d, (i_d0 hc d0 (by omega) e).2 z, e, fun k => by omega⟩
theorem stR_d (v : SV) (t : Nat) {c : Nat} (hc : c < 2 ^ 31) : ∃ d, d ≤ c ∧ (stR v t (nI c)).1 = nI d ∧ (d = 0 → (stR v t (nI c)).2 = v) := by
  unfold stR
  by_cases a : plcF v.kp (v.near t) 0 v.kc = -1
  · rw [if_pos a]
    by_cases b : kdI v t = 2
    · rw [if_pos b]
      unfold srR
      by_cases z : nI c < 2
      · rw [if_pos z]
        exact ⟨0, Nat.zero_le _, rfl, fun _ => rfl⟩
      · rw [if_neg z]
        by_cases y : v.far t = roI v t
        · rw [if_pos y]
          exact ⟨0, Nat.zero_le _, rfl, fun _ => rfl⟩
        · rw [if_neg y]
          exact ⟨2, (i_d0 (x := 2) (d := 2) hc (by omega) (by omega) rfl).2 z, rfl, fun k => by omega⟩
    · rw [if_neg b]
      exact spR_d v t 3 hc (wc_nat _)
  · rw [if_neg a]
    exact spR_d v t 1 hc ⟨1, by omega, by omega, rfl⟩
theorem saF_d (v : SV) {c : Nat} (hc : c < 2 ^ 31) : ∀ p, ∃ k, k ≤ c ∧ (saF v (nI c) p).1 = nI k ∧ (k = c → (saF v (nI c) p).2 = v ∧ ∀ q, q < p → (stR v (v.order q).toNatClampNeg (nI c)).1 = 0) := by
  intro p
  induction p with
  | zero => exact ⟨c, Nat.le_refl _, rfl, fun _ => ⟨rfl, fun q hq => absurd hq (Nat.not_lt_zero _)⟩⟩
  | succ p ih =>
    obtain ⟨k, k1, k2, k3⟩ := ih
    have e : saF v (nI c) (p + 1) = ((saF v (nI c) p).1 - (stR (saF v (nI c) p).2 ((saF v (nI c) p).2.order p).toNatClampNeg (saF v (nI c) p).1).1, (stR (saF v (nI c) p).2 ((saF v (nI c) p).2.order p).toNatClampNeg (saF v (nI c) p).1).2) := rfl
    rw [e, k2]
    obtain ⟨d, d1, d2, d3⟩ := stR_d (saF v (nI c) p).2 ((saF v (nI c) p).2.order p).toNatClampNeg (c := k) (by omega)
    refine ⟨k - d, by omega, ?_, fun z => ?_⟩
    · show nI k - _ = _
      rw [d2]
      exact pk_sub d1
    · have h1 : k = c := by omega
      have h2 : d = 0 := by omega
      obtain ⟨g1, g2⟩ := k3 h1
      refine ⟨(d3 h2).trans g1, fun q hq => ?_⟩
      rcases (show q < p ∨ q = p by omega) with y | y
      · exact g2 q y
      · rw [y]
        rw [g1, h1, h2] at d2
        exact d2
theorem bnF_0 (f : Nat → Int32) : ∀ n, bnF f n = 0 → ∀ t, t < n → f t = -1 := by
  intro n
  induction n with
  | zero => intro _ t ht; omega
  | succ n ih =>
    intro h t ht
    have h : bnF f n + (if f n = -1 then 0 else 1) = 0 := h
    by_cases z : f n = -1
    · rw [if_pos z] at h
      rcases (show t < n ∨ t = n by omega) with y | y
      · exact ih h t y
      · rw [y]; exact z
    · rw [if_neg z] at h
      omega
theorem muL_0 (f : Nat → Int32) : ∀ n, (∀ t, t < n → f t = -1) → muL f n = 0 := by
  intro n
  induction n with
  | zero => intro _; rfl
  | succ n ih =>
    intro h
    show (if f n = -1 then muL f n else muL f n ||| (1 <<< ((nI n).toInt64 &&& 63))) = 0
    rw [if_pos (h n (by omega))]
    exact ih (fun t ht => h t (by omega))
theorem bcL_00 : bcL 0 = 0 := by decide +kernel
theorem usF_bn (w : SV) : usF w 48 = 0 ↔ bnF w.since 48 = 0 := by
  refine ⟨fun h => ?_, fun h => ?_⟩
  · have k : bcL (usF w 48) = nI (bnF w.since 48) := by rw [us_mu, mu_bq _ 48 (Nat.le_refl _), bcL_bq]
    rw [h, bcL_00] at k
    have := bnF_le w.since 48
    exact ((nI_eq (a := 0) (by omega) (by omega)).mp k).symm
  · rw [us_mu]
    exact muL_0 _ 48 (bnF_0 _ 48 h)
theorem usF_ex (w : SV) (h : ¬ usF w 48 = 0) : ∃ t, t < 48 ∧ ¬ w.since t = -1 := by
  refine Classical.byContradiction (fun z => h ?_)
  rw [us_mu]
  exact muL_0 _ 48 (fun t ht => Classical.byContradiction (fun y => z ⟨t, ht, y⟩))
theorem alI_0 (w : SV) : alI w = 0 ↔ ¬ (w.wm = 0 ∧ usF w 48 = 0) := by
  unfold alI
  by_cases a : w.wm = 0
  · rw [if_pos a]
    by_cases b : usF w 48 = 0
    · rw [if_pos b]
      exact ⟨fun z => absurd z (by decide), fun z => absurd ⟨a, b⟩ z⟩
    · rw [if_neg b]
      exact ⟨fun _ z => b z.2, fun _ => rfl⟩
  · rw [if_neg a]
    exact ⟨fun _ z => a z.1, fun _ => rfl⟩
set_option maxRecDepth 100000 in
theorem bc_sh : ∀ k : Fin 256, bcI (nI k.val) < 4 → bcI ((nI k.val) <<< ((1 : Int32) &&& 31) &&& 255) < 4 := by decide +kernel
theorem kd_2 {w : SV} {t : Nat} : kdI w t = 2 ↔ ¬ bcI (w.ch t) < 4 := by
  unfold kdI
  by_cases a : bcI (w.ch t) < 4
  · rw [if_pos a]
    refine ⟨fun z => ?_, fun z => absurd a z⟩
    by_cases b : w.near t < 64
    · rw [if_pos b] at z
      exact absurd z (by decide)
    · rw [if_neg b] at z
      exact absurd z (by decide)
  · rw [if_neg a]
    exact ⟨fun _ => a, fun _ => rfl⟩
theorem i_00 (b : Int32) : b - nI 0 * 2 = b := by
  show b - 0 * 2 = b
  grind
theorem i_z2 : nI 0 * 2 = 0 := by decide
theorem hfF_0 (w : SV) : ∀ k i, hfF w i k = 0 → ∀ t, i ≤ t → t < i + k → ¬ kdI w t = 2 := by
  intro k
  induction k with
  | zero => intro i _ t h1 h2; omega
  | succ k ih =>
    intro i h t h1 h2
    have h : (if kdI w i = 2 then 1 else hfF w (i + 1) k) = 0 := h
    by_cases z : kdI w i = 2
    · rw [if_pos z] at h
      exact absurd h (by decide)
    · rw [if_neg z] at h
      rcases (show t = i ∨ i + 1 ≤ t by omega) with y | y
      · rw [y]; exact z
      · exact ih (i + 1) h t y (by omega)
end
section
/-! the order of sending: two lists that are sorted by the same worths are the same (the first rows are of whole) -/
theorem i_nlt {a b : Int32} (h : ¬ a < b) : b < a ∨ b = a := by
  rw [Int32.lt_iff_toInt_lt] at h
  by_cases q : b.toInt = a.toInt
  · exact Or.inr (Int32.toInt_inj.mp q)
  · exact Or.inl (by rw [Int32.lt_iff_toInt_lt]; omega)
theorem i_trans {a b c : Int32} (h1 : a < b) (h2 : b < c) : a < c := by
  rw [Int32.lt_iff_toInt_lt] at *
  omega
theorem i_irr {a : Int32} (h : a < a) : False := by
  rw [Int32.lt_iff_toInt_lt] at h
  omega
def beh (worth : Nat → Int32) (j i : Nat) : Prop := worth i < worth j ∨ (worth i = worth j ∧ j < i)
theorem beh_no {worth : Nat → Int32} {i j : Nat} (h1 : beh worth j i) (h2 : beh worth i j) : False := by
  rcases h1 with a | ⟨a, b⟩
  · rcases h2 with c | ⟨c, d⟩
    · exact i_irr (i_trans a c)
    · rw [c] at a; exact i_irr a
  · rcases h2 with c | ⟨c, d⟩
    · rw [a] at c; exact i_irr c
    · omega
theorem beh_tr {worth : Nat → Int32} {i j k : Nat} (h1 : beh worth j i) (h2 : beh worth i k) : beh worth j k := by
  rcases h1 with a | ⟨a, b⟩
  · rcases h2 with c | ⟨c, d⟩
    · exact Or.inl (i_trans c a)
    · exact Or.inl (by rw [c]; exact a)
  · rcases h2 with c | ⟨c, d⟩
    · exact Or.inl (by rw [← a]; exact c)
    · exact Or.inr ⟨c.trans a, by omega⟩
def insA (o : Nat → Int32) (t g p : Nat) : Nat → Int32 := fun j => if j < g then o j else if j = g then nI t else if j ≤ p then o (j - 1) else o j
theorem insF_is (wv : Nat → Int32) (t : Nat) : ∀ (p : Nat) (o : Nat → Int32), ∃ g, g ≤ p ∧ insF wv t p o = insA o t g p ∧ (∀ j, g ≤ j → j < p → wv (o j).toNatClampNeg < wv t) ∧ (0 < g → ¬ wv (o (g - 1)).toNatClampNeg < wv t) := by
  intro p
  induction p with
  | zero =>
    intro o
    refine ⟨0, Nat.le_refl _, ?_, fun j h1 h2 => absurd h2 (Nat.not_lt_zero _), fun h => absurd h (Nat.lt_irrefl _)⟩
    funext j
    show upd o 0 (nI t) j = _
    unfold insA
    rw [if_neg (Nat.not_lt_zero _)]
    by_cases z : j = 0
    · rw [z, pk_us, if_pos rfl]
    · rw [pk_un z, if_neg z, if_neg (by omega)]
  | succ p ih =>
    intro o
    by_cases h : wv (o p).toNatClampNeg < wv t
    · obtain ⟨g, h1, h2, h3, h4⟩ := ih (upd o (p + 1) (o p))
      refine ⟨g, by omega, ?_, fun j j1 j2 => ?_, fun g0 => ?_⟩
      · show (if wv (o p).toNatClampNeg < wv t then insF wv t p (upd o (p + 1) (o p)) else upd o (p + 1) (nI t)) = _
        rw [if_pos h, h2]
        funext j
        unfold insA
        by_cases a : j < g
        · rw [if_pos a, if_pos a, pk_un (by omega)]
        · rw [if_neg a, if_neg a]
          by_cases b : j = g
          · rw [if_pos b, if_pos b]
          · rw [if_neg b, if_neg b]
            by_cases c : j ≤ p
            · rw [if_pos c, if_pos (show j ≤ p + 1 by omega), pk_un (by omega)]
            · rw [if_neg c]
              by_cases d : j = p + 1
              · rw [if_pos (show j ≤ p + 1 by omega), d, pk_us]
                rfl
              · rw [if_neg (show ¬ j ≤ p + 1 by omega), pk_un d]
      · rcases (show j < p ∨ j = p by omega) with q | q
        · have k := h3 j j1 q
          rw [pk_un (by omega)] at k
          exact k
        · rw [q]; exact h
      · have k := h4 g0
        rw [pk_un (by omega)] at k
        exact k
    · refine ⟨p + 1, Nat.le_refl _, ?_, fun j j1 j2 => by omega, fun _ => h⟩
      show (if wv (o p).toNatClampNeg < wv t then insF wv t p (upd o (p + 1) (o p)) else upd o (p + 1) (nI t)) = _
      rw [if_neg h]
      funext j
      unfold insA
      by_cases z : j = p + 1
      · rw [z, pk_us, if_neg (Nat.lt_irrefl _), if_pos rfl]
      · rw [pk_un z]
        by_cases a : j < p + 1
        · rw [if_pos a]
        · rw [if_neg a, if_neg z, if_neg (by omega)]
def srt (w : Nat → Int32) (U : Nat → Prop) (o : Nat → Int32) (n t : Nat) : Prop := (∀ p, p < n → ∃ i, i < t ∧ o p = nI i ∧ U i) ∧ (∀ i, i < t → U i → ∃ p, p < n ∧ o p = nI i) ∧ ∀ p q, p < q → q < n → beh w (o p).toNatClampNeg (o q).toNatClampNeg
theorem srt_skip {w : Nat → Int32} {U : Nat → Prop} {o : Nat → Int32} {n t : Nat} (h : srt w U o n t) (hu : ¬ U t) : srt w U o n (t + 1) := by
  obtain ⟨h1, h2, h3⟩ := h
  refine ⟨fun p hp => ?_, fun i hi ui => ?_, h3⟩
  · obtain ⟨i, a, b, c⟩ := h1 p hp
    exact ⟨i, by omega, b, c⟩
  · rcases (show i < t ∨ i = t by omega) with q | q
    · exact h2 i q ui
    · rw [q] at ui; exact absurd ui hu
theorem srt_put {w : Nat → Int32} {U : Nat → Prop} {o : Nat → Int32} {n t : Nat} (ht : t < 48) (h : srt w U o n t) (hu : U t) : srt w U (insF w t n o) (n + 1) (t + 1) := by
  obtain ⟨h1, h2, h3⟩ := h
  obtain ⟨g, g1, g2, g3, g4⟩ := insF_is w t n o
  have et : (nI t).toNatClampNeg = t := nI_clamp (by omega)
  have a1 : ∀ j, j < g → insA o t g n j = o j := fun j z => if_pos z
  have a2 : insA o t g n g = nI t := by
    unfold insA
    rw [if_neg (Nat.lt_irrefl _), if_pos rfl]
  have a3 : ∀ j, g < j → j ≤ n → insA o t g n j = o (j - 1) := fun j z y => by
    unfold insA
    rw [if_neg (by omega), if_neg (by omega), if_pos y]
  have bt : ∀ j, j < n → (o j).toNatClampNeg < t := fun j hj => by
    obtain ⟨i, b1, b2, b3⟩ := h1 j hj
    rw [b2, nI_clamp (by omega)]
    exact b1
  have up : ∀ j, j < g → beh w (o j).toNatClampNeg t := fun j hj => by
    have e : beh w (o (g - 1)).toNatClampNeg t := by
      rcases i_nlt (g4 (by omega)) with q | q
      · exact Or.inl q
      · exact Or.inr ⟨q, bt _ (by omega)⟩
    rcases (show j = g - 1 ∨ j < g - 1 by omega) with q | q
    · rw [q]; exact e
    · exact beh_tr (h3 j (g - 1) q (by omega)) e
  rw [g2]
  refine ⟨fun p hp => ?_, fun i hi ui => ?_, fun p q hpq hq => ?_⟩
  · rcases (show p < g ∨ p = g ∨ g < p by omega) with z | z | z
    · obtain ⟨i, b1, b2, b3⟩ := h1 p (by omega)
      exact ⟨i, by omega, by rw [a1 p z]; exact b2, b3⟩
    · exact ⟨t, by omega, by rw [z]; exact a2, hu⟩
    · obtain ⟨i, b1, b2, b3⟩ := h1 (p - 1) (by omega)
      exact ⟨i, by omega, by rw [a3 p z (by omega)]; exact b2, b3⟩
  · rcases (show i < t ∨ i = t by omega) with z | z
    · obtain ⟨p, b1, b2⟩ := h2 i z ui
      by_cases y : p < g
      · exact ⟨p, by omega, by rw [a1 p y]; exact b2⟩
      · exact ⟨p + 1, by omega, by rw [a3 (p + 1) (by omega) (by omega)]; exact b2⟩
    · exact ⟨g, by omega, by rw [z]; exact a2⟩
  · rcases (show q < g ∨ q = g ∨ g < q by omega) with z | z | z
    · rw [a1 p (by omega), a1 q z]
      exact h3 p q hpq (by omega)
    · rw [z, a2, et, a1 p (by omega)]
      exact up p (by omega)
    · rw [a3 q z (by omega)]
      rcases (show p < g ∨ p = g ∨ g < p by omega) with y | y | y
      · rw [a1 p y]
        exact beh_tr (up p y) (Or.inl (g3 (q - 1) (by omega) (by omega)))
      · rw [y, a2, et]
        exact Or.inl (g3 (q - 1) (by omega) (by omega))
      · rw [a3 p y (by omega)]
        exact h3 (p - 1) (q - 1) (by omega) (by omega)
theorem srt_cong {w w' : Nat → Int32} {U : Nat → Prop} {o : Nat → Int32} {n t : Nat} (ht : t ≤ 48) (e : ∀ i, i < t → w i = w' i) (h : srt w U o n t) : srt w' U o n t := by
  obtain ⟨h1, h2, h3⟩ := h
  have bt : ∀ j, j < n → (o j).toNatClampNeg < t := fun j hj => by
    obtain ⟨i, b1, b2, b3⟩ := h1 j hj
    rw [b2, nI_clamp (by omega)]
    exact b1
  refine ⟨h1, h2, fun p q hpq hq => ?_⟩
  have k := h3 p q hpq hq
  unfold beh at k ⊢
  rw [e _ (bt p (by omega)), e _ (bt q hq)] at k
  exact k
abbrev unl (v : SV) : Nat → Prop := fun i => ¬ v.since i = -1
theorem piF_so (v : SV) : ∀ t, t ≤ 48 → srt (piF v t).2.1 (unl v) (piF v t).2.2 (piF v t).1 t ∧ (piF v t).1 ≤ t ∧ ∀ i, i < t → ¬ v.since i = -1 → (piF v t).2.1 i = woI v i := by
  intro t
  induction t with
  | zero => intro _; exact ⟨⟨fun p hp => absurd hp (Nat.not_lt_zero _), fun i hi => absurd hi (Nat.not_lt_zero _), fun p q _ hq => absurd hq (Nat.not_lt_zero _)⟩, Nat.le_refl _, fun i hi => absurd hi (Nat.not_lt_zero _)⟩
  | succ t ih =>
    intro ht
    obtain ⟨h1, h2, h3⟩ := ih (by omega)
    by_cases z : v.since t = -1
    · have e : piF v (t + 1) = piF v t := if_pos z
      rw [e]
      refine ⟨srt_skip h1 (fun q => q z), by omega, fun i hi ui => ?_⟩
      rcases (show i < t ∨ i = t by omega) with q | q
      · exact h3 i q ui
      · rw [q] at ui; exact absurd z ui
    · have e : piF v (t + 1) = ((piF v t).1 + 1, upd (piF v t).2.1 t (woI v t), insF (upd (piF v t).2.1 t (woI v t)) t (piF v t).1 (piF v t).2.2) := if_neg z
      rw [e]
      refine ⟨srt_put (by omega) (srt_cong (by omega) (fun i hi => (pk_un (by omega)).symm) h1) z, by show (piF v t).1 + 1 ≤ t + 1; omega, fun i hi ui => ?_⟩
      show upd (piF v t).2.1 t (woI v t) i = woI v i
      by_cases q : i = t
      · rw [q, pk_us]
      · rw [pk_un q]
        exact h3 i (by omega) ui
theorem stR_ord (v : SV) (t : Nat) (b : Int32) : (stR v t b).2.order = v.order ∧ (stR v t b).2.worths = v.worths := by
  have sp : ∀ w c, (spR v t w c b).2.order = v.order ∧ (spR v t w c b).2.worths = v.worths := by
    intro w c
    unfold spR
    split <;> exact ⟨rfl, rfl⟩
  have sr : (srR v t b).2.order = v.order ∧ (srR v t b).2.worths = v.worths := by
    unfold srR
    split
    · exact ⟨rfl, rfl⟩
    · split <;> exact ⟨rfl, rfl⟩
  unfold stR
  split
  · split
    · exact sr
    · exact sp _ _
  · exact sp _ _
theorem srt_cong2 {w w' : Nat → Int32} {U : Nat → Prop} {o : Nat → Int32} {n t : Nat} (ht : t ≤ 48) (e : ∀ i, i < t → U i → w i = w' i) (h : srt w U o n t) : srt w' U o n t := by
  obtain ⟨h1, h2, h3⟩ := h
  have bt : ∀ j, j < n → w (o j).toNatClampNeg = w' (o j).toNatClampNeg := fun j hj => by
    obtain ⟨i, b1, b2, b3⟩ := h1 j hj
    rw [b2, nI_clamp (by omega)]
    exact e i b1 b3
  refine ⟨h1, h2, fun p q hpq hq => ?_⟩
  have k := h3 p q hpq hq
  unfold beh at k ⊢
  rw [bt p (by omega), bt q hq] at k
  exact k
theorem srt_inj {w : Nat → Int32} {U : Nat → Prop} {o : Nat → Int32} {n t : Nat} (h : srt w U o n t) {p q : Nat} (hp : p < n) (hq : q < n) (e : o p = o q) : p = q := by
  obtain ⟨h1, h2, h3⟩ := h
  rcases (show p = q ∨ p < q ∨ q < p by omega) with z | z | z
  · exact z
  · have k := h3 p q z hq
    rw [e] at k
    exact (beh_no k k).elim
  · have k := h3 q p z hp
    rw [e] at k
    exact (beh_no k k).elim
theorem srt_same {w : Nat → Int32} {U : Nat → Prop} {o o' : Nat → Int32} {n n' t : Nat} (ht : t ≤ 48) (h : srt w U o n t) (h' : srt w U o' n' t) : ∀ p, p < n → p < n' ∧ o p = o' p := by
  have key : ∀ k p, p < k → p < n → p < n' ∧ o p = o' p := by
    intro k
    induction k with
    | zero => intro p hp; omega
    | succ k ih =>
      intro p hp hn
      obtain ⟨i, i1, i2, i3⟩ := h.1 p hn
      obtain ⟨q, q1, q2⟩ := h'.2.1 i i1 i3
      have hpq : p ≤ q := Nat.not_lt.mp (fun z => by
        obtain ⟨-, e⟩ := ih q (by omega) (by omega)
        have := srt_inj h (show q < n by omega) hn (by rw [e, q2, i2])
        omega)
      rcases (show p = q ∨ p < q by omega) with z | z
      · exact ⟨by omega, by rw [z, q2, ← i2, z]⟩
      · obtain ⟨j, j1, j2, j3⟩ := h'.1 p (by omega)
        obtain ⟨r, r1, r2⟩ := h.2.1 j j1 j3
        have hpr : p ≤ r := Nat.not_lt.mp (fun y => by
          obtain ⟨y1, e⟩ := ih r (by omega) (by omega)
          have := srt_inj h' y1 (show p < n' by omega) (by rw [← e, r2, j2])
          omega)
        rcases (show p = r ∨ p < r by omega) with y | y
        · exact ⟨by omega, by rw [y, r2, ← j2, ← y]⟩
        · have k1 := h.2.2 p r y r1
          have k2 := h'.2.2 p q z q1
          rw [i2, r2] at k1
          rw [j2, q2] at k2
          exact (beh_no k1 k2).elim
  exact fun p hp => key (p + 1) p (by omega) hp
theorem srt_num {w : Nat → Int32} {U : Nat → Prop} {o o' : Nat → Int32} {n n' t : Nat} (ht : t ≤ 48) (h : srt w U o n t) (h' : srt w U o' n' t) : n = n' := by
  rcases (show n = n' ∨ n < n' ∨ n' < n by omega) with z | z | z
  · exact z
  · have k := (srt_same ht h' h n z).1
    omega
  · have k := (srt_same ht h h' n' z).1
    omega
end
section
/-! blocks of tiles, filled and moved (the first rows are of whole) -/
theorem up_eq {f g : Nat → Int32} {n i : Nat} {x y : Int32} (h : ∀ j, j < n → f j = g j) (e : x = y) : ∀ j, j < n → upd f i x j = upd g i y j := by
  intro j hj
  by_cases z : j = i
  · rw [z, pk_us, pk_us, e]
  · rw [pk_un z, pk_un z]
    exact h j hj
def inb (x y w h t : Nat) : Prop := (x ≤ t % 8 ∧ t % 8 < x + w) ∧ (y ≤ t / 8 ∧ t / 8 < y + h)
theorem paC_at (p : Int32) (x row : Nat) (scr : Nat → Int32) : ∀ c, x + c ≤ 8 → ∀ t, ((t / 8 = row ∧ x ≤ t % 8 ∧ t % 8 < x + c) → paC p x row scr c t = p) ∧ (¬ (t / 8 = row ∧ x ≤ t % 8 ∧ t % 8 < x + c) → paC p x row scr c t = scr t) := by
  intro c
  induction c with
  | zero => intro _ t; exact ⟨fun h => by omega, fun _ => rfl⟩
  | succ c ih =>
    intro hc t
    have e : paC p x row scr (c + 1) = upd (paC p x row scr c) (8 * row + (x + c)) p := rfl
    obtain ⟨i1, i2⟩ := ih (by omega) t
    rw [e]
    by_cases z : t = 8 * row + (x + c)
    · rw [z, pk_us]
      exact ⟨fun _ => rfl, fun h => absurd (show (8 * row + (x + c)) / 8 = row ∧ x ≤ (8 * row + (x + c)) % 8 ∧ (8 * row + (x + c)) % 8 < x + (c + 1) by omega) h⟩
    · rw [pk_un z]
      exact ⟨fun h => i1 (by omega), fun h => i2 (by omega)⟩
theorem paR_at (p : Int32) (x y w : Nat) (scr : Nat → Int32) (hw : x + w ≤ 8) : ∀ h t, (inb x y w h t → paR p x y w scr h t = p) ∧ (¬ inb x y w h t → paR p x y w scr h t = scr t) := by
  intro h
  induction h with
  | zero => intro t; exact ⟨fun k => by unfold inb at k; omega, fun _ => rfl⟩
  | succ h ih =>
    intro t
    have e : paR p x y w scr (h + 1) = paC p x (y + h) (paR p x y w scr h) w := rfl
    obtain ⟨i1, i2⟩ := ih t
    obtain ⟨c1, c2⟩ := paC_at p x (y + h) (paR p x y w scr h) w hw t
    rw [e]
    unfold inb at *
    by_cases z : t / 8 = y + h ∧ x ≤ t % 8 ∧ t % 8 < x + w
    · exact ⟨fun _ => c1 z, fun k => absurd (by omega) k⟩
    · rw [c2 z]
      exact ⟨fun k => i1 (by omega), fun k => i2 (by omega)⟩
def ixb (x y w t : Nat) : Nat := (t / 8 - y) * w + (t % 8 - x)
def vis (x y w n t : Nat) : Prop := (x ≤ t % 8 ∧ t % 8 < x + w) ∧ y ≤ t / 8 ∧ ixb x y w t < n
theorem til_ix {x y w n : Nat} (h1 : 1 ≤ w) (hw : x + w ≤ 8) : (x ≤ (8 * (y + n / w) + x + n % w) % 8 ∧ (8 * (y + n / w) + x + n % w) % 8 < x + w) ∧ y ≤ (8 * (y + n / w) + x + n % w) / 8 ∧ ixb x y w (8 * (y + n / w) + x + n % w) = n := by
  have b : n % w < w := Nat.mod_lt _ (by omega)
  have e := Nat.div_add_mod' n w
  unfold ixb
  generalize n % w = d at *
  generalize n / w = c at *
  have e1 : (8 * (y + c) + x + d) % 8 = x + d := by omega
  have e2 : (8 * (y + c) + x + d) / 8 = y + c := by omega
  rw [e1, e2, show y + c - y = c by omega, show x + d - x = d by omega]
  exact ⟨⟨by omega, by omega⟩, by omega, e⟩
theorem ix_til {x y w t : Nat} (h1 : 1 ≤ w) (c : x ≤ t % 8 ∧ t % 8 < x + w) (r : y ≤ t / 8) : t = 8 * (y + ixb x y w t / w) + x + ixb x y w t % w := by
  have hd : t % 8 - x < w := by omega
  have e1 : ixb x y w t / w = t / 8 - y := by
    unfold ixb
    rw [Nat.add_comm, Nat.add_mul_div_right _ _ (by omega), Nat.div_eq_of_lt hd, Nat.zero_add]
  have e2 : ixb x y w t % w = t % 8 - x := by
    unfold ixb
    rw [Nat.add_comm, Nat.add_mul_mod_self_right, Nat.mod_eq_of_lt hd]
  rw [e1, e2]
  omega
theorem vis_inb {x y w h t : Nat} (h1 : 1 ≤ w) : vis x y w (w * h) t ↔ inb x y w h t := by
  unfold vis inb ixb
  refine ⟨fun k => ⟨k.1, k.2.1, ?_⟩, fun k => ⟨k.1, k.2.1, ?_⟩⟩
  · obtain ⟨⟨a, b⟩, c, d⟩ := k
    rcases (show t / 8 - y < h ∨ h ≤ t / 8 - y by omega) with z | z
    · omega
    · have := Nat.mul_le_mul_right w z
      rw [Nat.mul_comm h w] at this
      omega
  · obtain ⟨⟨a, b⟩, c, d⟩ := k
    have z : t / 8 - y + 1 ≤ h := by omega
    have := Nat.mul_le_mul_right w z
    rw [Nat.mul_comm h w, Nat.add_mul, Nat.one_mul] at this
    omega
set_option maxRecDepth 100000 in
theorem or_all : ∀ k : Fin 256, nI k.val ||| 1 = nI (k.val ||| 1) ∧ (k.val ||| 1) < 256 := by decide +kernel
def srcT (f : Nat → Nat) (t : Nat) : Nat := 8 * (f 1 + (t / 8 - f 5)) + (f 0 + (t % 8 - f 4))
theorem apC_at (f : Nat → Nat) (bef : Nat → Int32) (r : Nat) (scr : Nat → Int32) : ∀ c, f 4 + c ≤ 8 → ∀ t, ((t / 8 = f 5 + r ∧ f 4 ≤ t % 8 ∧ t % 8 < f 4 + c) → apC f bef r scr c t = bef (srcT f t)) ∧ (¬ (t / 8 = f 5 + r ∧ f 4 ≤ t % 8 ∧ t % 8 < f 4 + c) → apC f bef r scr c t = scr t) := by
  intro c
  induction c with
  | zero => intro _ t; exact ⟨fun h => by omega, fun _ => rfl⟩
  | succ c ih =>
    intro hc t
    have e : apC f bef r scr (c + 1) = upd (apC f bef r scr c) (8 * (f 5 + r) + (f 4 + c)) (bef (8 * (f 1 + r) + (f 0 + c))) := rfl
    obtain ⟨i1, i2⟩ := ih (by omega) t
    rw [e]
    by_cases z : t = 8 * (f 5 + r) + (f 4 + c)
    · have q : srcT f t = 8 * (f 1 + r) + (f 0 + c) := by
        unfold srcT
        have z1 : t / 8 = f 5 + r := by omega
        have z2 : t % 8 = f 4 + c := by omega
        rw [z1, z2]
        omega
      rw [q, z, pk_us]
      exact ⟨fun _ => rfl, fun h => absurd (show (8 * (f 5 + r) + (f 4 + c)) / 8 = f 5 + r ∧ f 4 ≤ (8 * (f 5 + r) + (f 4 + c)) % 8 ∧ (8 * (f 5 + r) + (f 4 + c)) % 8 < f 4 + (c + 1) by omega) h⟩
    · rw [pk_un z]
      exact ⟨fun h => i1 (by omega), fun h => i2 (by omega)⟩
theorem apR_at (f : Nat → Nat) (bef scr : Nat → Int32) (hw : f 4 + f 2 ≤ 8) : ∀ h t, (inb (f 4) (f 5) (f 2) h t → apR f bef scr h t = bef (srcT f t)) ∧ (¬ inb (f 4) (f 5) (f 2) h t → apR f bef scr h t = scr t) := by
  intro h
  induction h with
  | zero => intro t; exact ⟨fun k => by unfold inb at k; omega, fun _ => rfl⟩
  | succ h ih =>
    intro t
    have e : apR f bef scr (h + 1) = apC f bef h (apR f bef scr h) (f 2) := rfl
    obtain ⟨i1, i2⟩ := ih t
    obtain ⟨c1, c2⟩ := apC_at f bef h (apR f bef scr h) (f 2) hw t
    rw [e]
    unfold inb at *
    by_cases z : t / 8 = f 5 + h ∧ f 4 ≤ t % 8 ∧ t % 8 < f 4 + f 2
    · exact ⟨fun _ => c1 z, fun k => absurd (by omega) k⟩
    · rw [c2 z]
      exact ⟨fun k => i1 (by omega), fun k => i2 (by omega)⟩
def fgV (v : SV) (told : Nat) : SV := tsV (fmV v told) told
theorem i_told (b : Int32) (told : Nat) : b - nI told * 2 + (-2) = b - nI (told + 1) * 2 := by
  rw [← nI_1]
  generalize nI told = x
  grind
theorem i_bcd (b c d : Int32) : c + (b - c - d) = b - d := by grind
theorem i_bbc (b c : Int32) : b - (b - c) = c := by grind
/-- a block's tiles that are moved by then -/
def mvd (m : Nat → Nat) (i z : Nat) : Prop := (dstN m ≤ srcN m ∧ z < i) ∨ (srcN m < dstN m ∧ m 2 * m 3 - i ≤ z)
theorem dT_mono {m : Nat → Nat} (hm : MOK m) (h1 : 1 ≤ m 2) {z y : Nat} (hz : z < y) : dT m z < dT m y := by
  obtain ⟨a1, a2, a3, a4⟩ := hm
  have b1 := Nat.mod_lt z h1
  have b2 := Nat.mod_lt y h1
  have e1 := Nat.div_add_mod z (m 2)
  have e2 := Nat.div_add_mod y (m 2)
  have hd : z / m 2 ≤ y / m 2 := Nat.div_le_div_right (Nat.le_of_lt hz)
  unfold dT
  rcases (show z / m 2 = y / m 2 ∨ z / m 2 < y / m 2 by omega) with q | q
  · rw [q] at e1 ⊢
    omega
  · omega
theorem sd_T (m : Nat → Nat) (z : Nat) : sT m z + dstN m = dT m z + srcN m := by
  unfold sT dT dstN srcN
  omega
theorem shN_at {m : Nat → Nat} (hm : MOK m) (h1 : 1 ≤ m 2) (scr : Nat → Int32) : ∀ i, i ≤ m 2 * m 3 → ∀ t, (vis (m 4) (m 5) (m 2) (m 2 * m 3) t ∧ mvd m i (ixb (m 4) (m 5) (m 2) t) → shN m scr i t = scr (sT m (ixb (m 4) (m 5) (m 2) t))) ∧ (¬ (vis (m 4) (m 5) (m 2) (m 2 * m 3) t ∧ mvd m i (ixb (m 4) (m 5) (m 2) t)) → shN m scr i t = scr t) := by
  intro i
  induction i with
  | zero =>
    intro _ t
    refine ⟨fun h => ?_, fun _ => rfl⟩
    obtain ⟨⟨-, -, v⟩, h⟩ := h
    unfold mvd at h
    omega
  | succ i ih =>
    intro hi t
    have ih := ih (by omega)
    have a3 : m 4 + m 2 ≤ 8 := hm.2.2.1
    have e : shN m scr (i + 1) = upd (shN m scr i) (dT m (shA9 m i)) (shN m scr i (sT m (shA9 m i))) := rfl
    have hz : shA9 m i < m 2 * m 3 := by
      unfold shA9
      split <;> omega
    have hz2 : (dstN m ≤ srcN m ∧ shA9 m i = i) ∨ (srcN m < dstN m ∧ shA9 m i = m 2 * m 3 - 1 - i) := by
      unfold shA9
      by_cases q : dstN m ≤ srcN m
      · rw [if_pos q]; exact Or.inl ⟨q, rfl⟩
      · rw [if_neg q]; exact Or.inr ⟨by omega, rfl⟩
    obtain ⟨t1, t2, t3⟩ := til_ix (x := m 4) (y := m 5) (n := shA9 m i) h1 a3
    have t1 : m 4 ≤ dT m (shA9 m i) % 8 ∧ dT m (shA9 m i) % 8 < m 4 + m 2 := t1
    have t2 : m 5 ≤ dT m (shA9 m i) / 8 := t2
    have t3 : ixb (m 4) (m 5) (m 2) (dT m (shA9 m i)) = shA9 m i := t3
    generalize hZ : shA9 m i = z at *
    -- what is read is as it was
    have hr : shN m scr i (sT m z) = scr (sT m z) := by
      refine (ih (sT m z)).2 (fun k => ?_)
      obtain ⟨k1, k2⟩ := k
      have q := ix_til h1 k1.1 k1.2.1
      have q : sT m z = dT m (ixb (m 4) (m 5) (m 2) (sT m z)) := q
      have s := sd_T m z
      unfold mvd at k2
      rcases k2 with ⟨b1, b2⟩ | ⟨b1, b2⟩
      · have := dT_mono hm h1 (show ixb (m 4) (m 5) (m 2) (sT m z) < z by omega)
        omega
      · have := dT_mono hm h1 (show z < ixb (m 4) (m 5) (m 2) (sT m z) by omega)
        omega
    rw [e, hr]
    by_cases y : t = dT m z
    · rw [y, pk_us, t3]
      refine ⟨fun _ => rfl, fun k => absurd ⟨⟨t1, t2, by rw [t3]; exact hz⟩, ?_⟩ k⟩
      unfold mvd
      omega
    · rw [pk_un y]
      have same : (vis (m 4) (m 5) (m 2) (m 2 * m 3) t ∧ mvd m (i + 1) (ixb (m 4) (m 5) (m 2) t)) ↔ (vis (m 4) (m 5) (m 2) (m 2 * m 3) t ∧ mvd m i (ixb (m 4) (m 5) (m 2) t)) := by
        refine ⟨fun v => ⟨v.1, ?_⟩, fun v => ⟨v.1, ?_⟩⟩
        · have l := v.2
          have k := ix_til h1 v.1.1 v.1.2.1
          have k : t = dT m (ixb (m 4) (m 5) (m 2) t) := k
          have hne : ¬ ixb (m 4) (m 5) (m 2) t = z := fun r => y (by rw [r] at k; exact k)
          unfold mvd at l ⊢
          omega
        · have l := v.2
          unfold mvd at l ⊢
          omega
      rw [same]
      exact ih t
theorem sT_src {m : Nat → Nat} (h1 : 1 ≤ m 2) {t : Nat} (c : m 4 ≤ t % 8 ∧ t % 8 < m 4 + m 2) (r : m 5 ≤ t / 8) : sT m (ixb (m 4) (m 5) (m 2) t) = srcT m t := by
  have hd : t % 8 - m 4 < m 2 := by omega
  have e1 : ixb (m 4) (m 5) (m 2) t / m 2 = t / 8 - m 5 := by
    unfold ixb
    rw [Nat.add_comm, Nat.add_mul_div_right _ _ (by omega), Nat.div_eq_of_lt hd, Nat.zero_add]
  have e2 : ixb (m 4) (m 5) (m 2) t % m 2 = t % 8 - m 4 := by
    unfold ixb
    rw [Nat.add_comm, Nat.add_mul_mod_self_right, Nat.mod_eq_of_lt hd]
  unfold sT srcT
  rw [e1, e2]
  omega
/-- in place or out of a copy: the same -/
theorem shN_ap {m : Nat → Nat} (hm : MOK m) (h1 : 1 ≤ m 2) (scr scr' bef : Nat → Int32) (e : ∀ t, t < 48 → scr t = scr' t) : ∀ t, t < 48 → shN m scr (m 2 * m 3) t = apF m scr' bef t := by
  intro t ht
  obtain ⟨a1, a2, a3, a4⟩ := id hm
  obtain ⟨k1, k2⟩ := shN_at hm h1 scr (m 2 * m 3) (Nat.le_refl _) t
  obtain ⟨p1, p2⟩ := apR_at m (fz_to scr' bef 48) scr' a3 (m 3) t
  by_cases z : inb (m 4) (m 5) (m 2) (m 3) t
  · have v := (vis_inb h1).mpr z
    rw [k1 ⟨v, by have := v.2.2; unfold mvd; omega⟩, sT_src h1 v.1 v.2.1]
    have b : srcT m t < 48 := by
      unfold inb at z
      unfold srcT
      omega
    show scr (srcT m t) = apR m (fz_to scr' bef 48) scr' (m 3) t
    rw [p1 z, fz_to_lt b, e _ b]
  · rw [k2 (fun v => z ((vis_inb h1).mp v.1))]
    show scr t = apR m (fz_to scr' bef 48) scr' (m 3) t
    rw [p2 z, e t ht]
end
section
/-! the class's state and the law's rows -/
def Rel (v : SV) (y : Int32) (x : LV) : Prop := (∀ t, t < 48 → x.n t = v.near t) ∧ (∀ t, t < 48 → x.f t = v.far t) ∧ (∀ t, t < 48 → x.u t = v.since t) ∧ (∀ t, t < 48 → x.h t = v.ch t) ∧ (∀ j i, j < v.wm → i < 6 → x.w (6 * j + i) = nI (v.mv j i)) ∧ (∀ k, k < v.kc → x.kn k = v.kp k + 1) ∧ (∀ k, v.kc ≤ k → k < 8 → x.kn k = 0) ∧ x.gg 0 = v.now ∧ x.gg 1 = nI v.la ∧ x.gg 2 = nI v.wm ∧ x.gg 3 = y ∧ ∀ k, k < 4 → x.gg (4 + k) = v.sc k
def Inw (v : SV) (T : Nat) : Prop := v.wm ≤ 4 ∧ v.kc ≤ 8 ∧ (∀ j, j < v.wm → MOK (v.mv j) ∧ 1 ≤ v.mv j 2) ∧ v.la < 48 ∧ (∀ t, t < 48 → ∃ k, k < 256 ∧ v.near t = nI k) ∧ (∀ t, t < 48 → ∃ k, k < 2000 ∧ v.far t = nI k) ∧ (∀ t, t < 48 → ∃ k, k < 256 ∧ v.ch t = nI k) ∧ (∀ k, k < v.kc → ∃ j, j < 256 ∧ v.kp k = nI j) ∧ (∃ N, N ≤ T ∧ v.now = nI N ∧ ∀ t, t < 48 → v.since t = -1 ∨ ∃ k, k ≤ N ∧ v.since t = nI k) ∧ T < 2 ^ 20
def Inv (v : SV) (T : Nat) : Prop := Inw v T ∧ ∀ t, t < 48 → (v.since t = -1 ↔ v.near t = v.far t)
theorem inv_ge {v : SV} {T t : Nat} (h : Inw v T) (ht : t < 48) : 0 ≤ v.since t ↔ ¬ v.since t = -1 := by
  obtain ⟨-, -, -, -, -, -, -, -, ⟨N, n1, n2, n3⟩, hT⟩ := h
  rcases n3 t ht with z | ⟨k, k1, k2⟩
  · rw [z]
    exact ⟨fun q => absurd q (by decide), fun q => absurd rfl q⟩
  · rw [k2]
    exact ⟨fun _ => nI_m1 (by omega), fun _ => nI_pos' (by omega)⟩
theorem nu_at (u : SV) {t : Nat} (ht : t < 48) : (nuV u).since t = if u.near t = u.far t then -1 else if u.since t = -1 then u.now else u.since t := fz_to_lt ht
theorem nc_at (u : SV) {t : Nat} (ht : t < 48) : (ncV u).ch t = if u.near t = u.before t then u.ch t else u.ch t ||| 1 := fz_to_lt ht
theorem inv_nu {u : SV} {T : Nat} (h : Inw u T) : Inv (nuV u) T := by
  obtain ⟨h1, h2, h3, h4, h5, h6, h7, h8, ⟨N, n1, n2, n3⟩, hT⟩ := h
  refine ⟨⟨h1, h2, h3, h4, h5, h6, h7, h8, ⟨N, n1, n2, fun t ht => ?_⟩, hT⟩, fun t ht => ?_⟩
  · rw [nu_at u ht]
    by_cases a : u.near t = u.far t
    · rw [if_pos a]; exact Or.inl rfl
    · rw [if_neg a]
      by_cases b : u.since t = -1
      · rw [if_pos b]; exact Or.inr ⟨N, Nat.le_refl _, n2⟩
      · rw [if_neg b]; exact n3 t ht
  · rw [nu_at u ht]
    show _ ↔ u.near t = u.far t
    by_cases a : u.near t = u.far t
    · rw [if_pos a]; exact ⟨fun _ => a, fun _ => rfl⟩
    · rw [if_neg a]
      by_cases b : u.since t = -1
      · rw [if_pos b, n2]; exact ⟨fun z => absurd z (nI_m1 (by omega)), fun z => absurd z a⟩
      · rw [if_neg b]; exact ⟨fun z => absurd z b, fun z => absurd z a⟩
theorem inw_nc {u : SV} {T : Nat} (h : Inw u T) : Inw (ncV u) T := by
  obtain ⟨h1, h2, h3, h4, h5, h6, h7, h8, h9, hT⟩ := h
  refine ⟨h1, h2, h3, h4, h5, h6, fun t ht => ?_, h8, h9, hT⟩
  rw [nc_at u ht]
  obtain ⟨k, hk, e⟩ := h7 t ht
  by_cases a : u.near t = u.before t
  · rw [if_pos a]; exact ⟨k, hk, e⟩
  · rw [if_neg a, e]
    obtain ⟨o1, o2⟩ := or_all ⟨k, hk⟩
    exact ⟨k ||| 1, o2, o1⟩
theorem inw_up {v : SV} {T S : Nat} (h : Inw v T) (hTS : T ≤ S) (hS : S < 2 ^ 20) : Inw v S := by
  obtain ⟨h1, h2, h3, h4, h5, h6, h7, h8, ⟨N, n1, n2, n3⟩, hT⟩ := h
  exact ⟨h1, h2, h3, h4, h5, h6, h7, h8, ⟨N, by omega, n2, n3⟩, hS⟩
theorem inv_up {v : SV} {T S : Nat} (h : Inv v T) (hTS : T ≤ S) (hS : S < 2 ^ 20) : Inv v S := ⟨inw_up h.1 hTS hS, h.2⟩
theorem inv_sok {v : SV} {T : Nat} (h : Inw v T) : SOK v := ⟨h.1, h.2.1, fun j hj => (h.2.2.1 j hj).1⟩
/-- a tile's time, compared and drawn by the law -/
def luF (x : LV) (t : Nat) (q : Int32) : Int32 := if q = x.f t then -1 else if 0 ≤ x.u t then x.u t else x.gg 0
theorem lkV_eq (x : LV) (t : Nat) : lkV x t = x.uS (upd x.u t (luF x t (x.n t))) := by
  unfold lkV luF
  by_cases a : x.n t = x.f t
  · rw [if_pos a, if_pos a]
  · rw [if_neg a, if_neg a]
    by_cases b : 0 ≤ x.u t
    · rw [if_pos b, if_pos b, upd_id]
      rfl
    · rw [if_neg b, if_neg b]
theorem drH_eq (x : LV) (t : Nat) (q : Int32) : drH x t q = x.hS (upd x.h t (if x.n t = q then x.h t else x.h t ||| 1)) := by
  unfold drH
  by_cases a : x.n t = q
  · rw [if_pos a, if_pos a, upd_id]
    rfl
  · rw [if_neg a, if_neg a]
theorem drV_eq (x : LV) (t : Nat) (q : Int32) : drV x t q = LV.mk9 (upd x.n t q) x.f (upd x.u t (luF x t q)) (upd x.h t (if x.n t = q then x.h t else x.h t ||| 1)) x.w x.kn x.gg := by
  unfold drV
  rw [lkV_eq]
  unfold drN
  rw [drH_eq]
  show LV.mk9 (upd x.n t q) x.f (upd x.u t (if upd x.n t q t = x.f t then -1 else if 0 ≤ x.u t then x.u t else x.gg 0)) (upd x.h t (if x.n t = q then x.h t else x.h t ||| 1)) x.w x.kn x.gg = _
  rw [pk_us]
  rfl
/-- all tiles compared -/
def lkN (x : LV) : Nat → LV
  | 0 => x
  | k + 1 => lkV (lkN x k) k
theorem lkN_eq (x : LV) : ∀ k, lkN x k = x.uS (fz_to (fun t => luF x t (x.n t)) x.u k) := by
  intro k
  induction k with
  | zero => rw [fz_to_0]; rfl
  | succ k ih =>
    show lkV (lkN x k) k = _
    rw [ih, lkV_eq]
    have e : luF (x.uS (fz_to (fun t => luF x t (x.n t)) x.u k)) k (x.n k) = luF x k (x.n k) := by
      show (if x.n k = x.f k then -1 else if 0 ≤ fz_to (fun t => luF x t (x.n t)) x.u k k then fz_to (fun t => luF x t (x.n t)) x.u k k else x.gg 0) = _
      rw [fz_to_ge (Nat.le_refl _)]
      rfl
    show x.uS (upd (fz_to (fun t => luF x t (x.n t)) x.u k) k (luF (x.uS (fz_to (fun t => luF x t (x.n t)) x.u k)) k (x.n k))) = _
    rw [e, fz_to_s (fun t => luF x t (x.n t)) x.u k rfl]
/-- a block is filled -/
def dfl (x : LV) (a b w : Nat) (q : Int32) : Nat → LV
  | 0 => x
  | n + 1 => drV (dfl x a b w q n) (8 * (b + n / w) + a + n % w) q
theorem dfl_keep (x : LV) (a b w : Nat) (q : Int32) : ∀ n, (dfl x a b w q n).f = x.f ∧ (dfl x a b w q n).w = x.w ∧ (dfl x a b w q n).kn = x.kn ∧ (dfl x a b w q n).gg = x.gg := by
  intro n
  induction n with
  | zero => exact ⟨rfl, rfl, rfl, rfl⟩
  | succ n ih =>
    have e : dfl x a b w q (n + 1) = drV (dfl x a b w q n) (8 * (b + n / w) + a + n % w) q := rfl
    rw [e, drV_eq]
    exact ih
theorem dfl_at (x : LV) {a b w : Nat} (q : Int32) (h1 : 1 ≤ w) (hw : a + w ≤ 8) : ∀ n t, (vis a b w n t → (dfl x a b w q n).n t = q ∧ (dfl x a b w q n).h t = (if x.n t = q then x.h t else x.h t ||| 1) ∧ (dfl x a b w q n).u t = luF x t q) ∧ (¬ vis a b w n t → (dfl x a b w q n).n t = x.n t ∧ (dfl x a b w q n).h t = x.h t ∧ (dfl x a b w q n).u t = x.u t) := by
  intro n
  induction n with
  | zero => intro t; exact ⟨fun h => absurd h.2.2 (Nat.not_lt_zero _), fun _ => ⟨rfl, rfl, rfl⟩⟩
  | succ n ih =>
    intro t
    obtain ⟨i1, i2⟩ := ih t
    obtain ⟨k1, -, -, k2⟩ := dfl_keep x a b w q n
    obtain ⟨t1, t2, t3⟩ := til_ix (y := b) (n := n) h1 hw
    have e : dfl x a b w q (n + 1) = drV (dfl x a b w q n) (8 * (b + n / w) + a + n % w) q := rfl
    rw [e, drV_eq]
    generalize hM : dfl x a b w q n = M at *
    generalize hT : 8 * (b + n / w) + a + n % w = D at *
    show (_ → upd M.n D q t = q ∧ upd M.h D (if M.n D = q then M.h D else M.h D ||| 1) t = _ ∧ upd M.u D (if q = M.f D then -1 else if 0 ≤ M.u D then M.u D else M.gg 0) t = _) ∧ (_ → upd M.n D q t = _ ∧ upd M.h D (if M.n D = q then M.h D else M.h D ||| 1) t = _ ∧ upd M.u D (if q = M.f D then -1 else if 0 ≤ M.u D then M.u D else M.gg 0) t = _)
    by_cases z : t = D
    · have nv : ¬ vis a b w n t := fun v => by
        have := v.2.2
        rw [z, t3] at this
        omega
      obtain ⟨a1, a2, a3⟩ := i2 nv
      rw [z] at a1 a2 a3 ⊢
      rw [pk_us, pk_us, pk_us, a1, a2, a3, k1, k2]
      exact ⟨fun _ => ⟨rfl, rfl, rfl⟩, fun h => absurd ⟨t1, t2, by rw [t3]; omega⟩ h⟩
    · rw [pk_un z, pk_un z, pk_un z]
      have same : vis a b w (n + 1) t ↔ vis a b w n t := by
        refine ⟨fun v => ⟨v.1, v.2.1, ?_⟩, fun v => ⟨v.1, v.2.1, by have := v.2.2; omega⟩⟩
        have l := v.2.2
        rcases (show ixb a b w t < n ∨ ixb a b w t = n by omega) with r | r
        · exact r
        · have k := ix_til h1 v.1 v.2.1
          rw [r, hT] at k
          exact absurd k z
      rw [same]
      exact ⟨i1, i2⟩
/-- all tiles drawn anew -/
def dmv (x : LV) (bef : Nat → Int32) : Nat → LV
  | 0 => x
  | k + 1 => drV (dmv x bef k) k (bef k)
theorem dmv_keep (x : LV) (bef : Nat → Int32) : ∀ n, (dmv x bef n).f = x.f ∧ (dmv x bef n).w = x.w ∧ (dmv x bef n).kn = x.kn ∧ (dmv x bef n).gg = x.gg := by
  intro n
  induction n with
  | zero => exact ⟨rfl, rfl, rfl, rfl⟩
  | succ n ih =>
    have e : dmv x bef (n + 1) = drV (dmv x bef n) n (bef n) := rfl
    rw [e, drV_eq]
    exact ih
theorem dmv_at (x : LV) (bef : Nat → Int32) : ∀ n t, (t < n → (dmv x bef n).n t = bef t ∧ (dmv x bef n).h t = (if x.n t = bef t then x.h t else x.h t ||| 1) ∧ (dmv x bef n).u t = luF x t (bef t)) ∧ (n ≤ t → (dmv x bef n).n t = x.n t ∧ (dmv x bef n).h t = x.h t ∧ (dmv x bef n).u t = x.u t) := by
  intro n
  induction n with
  | zero => intro t; exact ⟨fun h => absurd h (Nat.not_lt_zero _), fun _ => ⟨rfl, rfl, rfl⟩⟩
  | succ n ih =>
    intro t
    obtain ⟨i1, i2⟩ := ih t
    obtain ⟨k1, -, -, k2⟩ := dmv_keep x bef n
    have e : dmv x bef (n + 1) = drV (dmv x bef n) n (bef n) := rfl
    rw [e, drV_eq]
    generalize hM : dmv x bef n = M at *
    show (_ → upd M.n n (bef n) t = _ ∧ upd M.h n (if M.n n = bef n then M.h n else M.h n ||| 1) t = _ ∧ upd M.u n (if bef n = M.f n then -1 else if 0 ≤ M.u n then M.u n else M.gg 0) t = _) ∧ (_ → upd M.n n (bef n) t = _ ∧ upd M.h n (if M.n n = bef n then M.h n else M.h n ||| 1) t = _ ∧ upd M.u n (if bef n = M.f n then -1 else if 0 ≤ M.u n then M.u n else M.gg 0) t = _)
    by_cases z : t = n
    · obtain ⟨a1, a2, a3⟩ := i2 (by omega)
      rw [z] at a1 a2 a3 ⊢
      rw [pk_us, pk_us, pk_us, a1, a2, a3, k1, k2]
      exact ⟨fun _ => ⟨rfl, rfl, rfl⟩, fun h => absurd h (by omega)⟩
    · rw [pk_un z, pk_un z, pk_un z]
      exact ⟨fun h => i1 (by omega), fun h => i2 (by omega)⟩
theorem lu_is {v : SV} {y : Int32} {x : LV} {T t : Nat} (hr : Rel v y x) (hi : Inw v T) (ht : t < 48) (q : Int32) : luF x t q = if q = v.far t then -1 else if v.since t = -1 then v.now else v.since t := by
  obtain ⟨r1, r2, r3, r4, r5, r6, r7, r8, -⟩ := hr
  unfold luF
  rw [r2 t ht, r3 t ht, r8]
  by_cases a : q = v.far t
  · rw [if_pos a, if_pos a]
  · rw [if_neg a, if_neg a]
    have k := inv_ge hi ht
    by_cases b : v.since t = -1
    · rw [if_pos b, if_neg (fun z => (k.mp z) b)]
    · rw [if_neg b, if_pos (k.mpr b)]
end
section
/-! drawing, on both sides -/
theorem rel_fill {v : SV} {y : Int32} {x : LV} {T a b w h : Nat} {q : Int32} (hr : Rel v y x) (hi : Inv v T) (h1 : 1 ≤ w) (hw : a + w ≤ 8) : Rel (paV v a b w h q) y (dfl x a b w q (w * h)) := by
  obtain ⟨r1, r2, r3, r4, r5, r6, r7, r8, r9, r10, r11, r12⟩ := id hr
  obtain ⟨k1, k2, k3, k4⟩ := dfl_keep x a b w q (w * h)
  have Pp := paR_at q a b w v.near hw h
  have Q : ∀ t, (inb a b w h t → (dfl x a b w q (w * h)).n t = q ∧ (dfl x a b w q (w * h)).h t = (if x.n t = q then x.h t else x.h t ||| 1) ∧ (dfl x a b w q (w * h)).u t = luF x t q) ∧ (¬ inb a b w h t → (dfl x a b w q (w * h)).n t = x.n t ∧ (dfl x a b w q (w * h)).h t = x.h t ∧ (dfl x a b w q (w * h)).u t = x.u t) := fun t => by
    have k := dfl_at x (b := b) q h1 hw (w * h) t
    rw [vis_inb h1] at k
    exact k
  refine ⟨fun t ht => ?_, fun t ht => ?_, fun t ht => ?_, fun t ht => ?_, by rw [k2]; exact r5, by rw [k3]; exact r6, by rw [k3]; exact r7, by rw [k4]; exact r8, by rw [k4]; exact r9, by rw [k4]; exact r10, by rw [k4]; exact r11, by rw [k4]; exact r12⟩
  · show _ = paR q a b w v.near h t
    by_cases z : inb a b w h t
    · rw [(Pp t).1 z, ((Q t).1 z).1]
    · rw [(Pp t).2 z, ((Q t).2 z).1, r1 t ht]
  · rw [k1]; exact r2 t ht
  · have e : (paV v a b w h q).since t = if paR q a b w v.near h t = v.far t then -1 else if v.since t = -1 then v.now else v.since t := nu_at _ ht
    rw [e]
    by_cases z : inb a b w h t
    · rw [(Pp t).1 z, ((Q t).1 z).2.2]
      exact lu_is hr hi.1 ht q
    · rw [(Pp t).2 z, ((Q t).2 z).2.2, r3 t ht]
      have k := hi.2 t ht
      by_cases c : v.near t = v.far t
      · rw [if_pos c]; exact k.mpr c
      · rw [if_neg c, if_neg (fun z => c (k.mp z))]
  · have e : (paV v a b w h q).ch t = if paR q a b w v.near h t = fz_to v.near v.before 48 t then v.ch t else v.ch t ||| 1 := nc_at _ ht
    rw [e, fz_to_lt ht]
    by_cases z : inb a b w h t
    · rw [(Pp t).1 z, ((Q t).1 z).2.1, r1 t ht, r4 t ht]
      by_cases c : v.near t = q
      · rw [if_pos c, if_pos c.symm]
      · rw [if_neg c, if_neg (fun z => c z.symm)]
    · rw [(Pp t).2 z, ((Q t).2 z).2.1, r4 t ht, if_pos rfl]
theorem inv_fill {v : SV} {T a b w h k : Nat} {q : Int32} (hi : Inv v T) (hw : a + w ≤ 8) (hk : k < 256) (hq : q = nI k) : Inv (paV v a b w h q) T := by
  refine inv_nu (inw_nc ?_)
  obtain ⟨h1, h2, h3, h4, h5, h6, h7, h8, h9, hT⟩ := hi.1
  refine ⟨h1, h2, h3, h4, fun t ht => ?_, h6, h7, h8, h9, hT⟩
  obtain ⟨p1, p2⟩ := paR_at q a b w v.near hw h t
  show ∃ k, k < 256 ∧ paR q a b w v.near h t = nI k
  by_cases z : inb a b w h t
  · exact ⟨k, hk, by rw [p1 z, hq]⟩
  · rw [p2 z]; exact h5 t ht
/-- how many tiles are unlike, as the law counts them -/
def cnL (u : Nat → Int32) : Nat → Int32
  | 0 => 0
  | t + 1 => cnL u t + (if 0 ≤ u t then 1 else 0)
theorem cnL_bn {u s : Nat → Int32} : ∀ t, (∀ i, i < t → (0 ≤ u i ↔ ¬ s i = -1)) → cnL u t = nI (bnF s t) := by
  intro t
  induction t with
  | zero => intro _; rfl
  | succ t ih =>
    intro h
    show cnL u t + (if 0 ≤ u t then 1 else 0) = nI (bnF s t + (if s t = -1 then 0 else 1))
    rw [ih (fun i hi => h i (by omega))]
    have k := h t (by omega)
    by_cases b : s t = -1
    · rw [if_pos b, if_neg (fun z => (k.mp z) b)]
      exact Int32.add_zero _
    · rw [if_neg b, if_pos (k.mpr b)]
      exact nI_1 _
theorem cn_unlike {v : SV} {y : Int32} {x : LV} {T : Nat} (hr : Rel v y x) (hi : Inw v T) : cnL x.u 48 = bcL (usF v 48) := by
  rw [us_mu, mu_bq _ 48 (Nat.le_refl _), bcL_bq]
  refine cnL_bn 48 (fun i h => ?_)
  rw [hr.2.2.1 i h]
  exact inv_ge hi h
/-- a move, written into the row of moves -/
def w6 (w : Nat → Int32) (b : Nat) (m : Nat → Nat) : Nat → Int32 := upd (upd (upd (upd (upd (upd w b (nI (m 0))) (b + 1) (nI (m 1))) (b + 2) (nI (m 2))) (b + 3) (nI (m 3))) (b + 4) (nI (m 4))) (b + 5) (nI (m 5))
theorem w6_in (w : Nat → Int32) (b : Nat) (m : Nat → Nat) : ∀ i, i < 6 → w6 w b m (b + i) = nI (m i) := by
  intro i hi
  unfold w6
  rcases (show i = 0 ∨ i = 1 ∨ i = 2 ∨ i = 3 ∨ i = 4 ∨ i = 5 by omega) with rfl | rfl | rfl | rfl | rfl | rfl
  · rw [pk_un (by omega), pk_un (by omega), pk_un (by omega), pk_un (by omega), pk_un (by omega), Nat.add_zero, pk_us]
  · rw [pk_un (by omega), pk_un (by omega), pk_un (by omega), pk_un (by omega), pk_us]
  · rw [pk_un (by omega), pk_un (by omega), pk_un (by omega), pk_us]
  · rw [pk_un (by omega), pk_un (by omega), pk_us]
  · rw [pk_un (by omega), pk_us]
  · rw [pk_us]
theorem w6_out (w : Nat → Int32) (b : Nat) (m : Nat → Nat) {j : Nat} (h : j < b ∨ b + 6 ≤ j) : w6 w b m j = w j := by
  unfold w6
  rw [pk_un (by omega), pk_un (by omega), pk_un (by omega), pk_un (by omega), pk_un (by omega), pk_un (by omega)]
theorem rel_w {v : SV} {y : Int32} {x : LV} (hr : Rel v y x) (m : Nat → Nat) {b : Nat} (hb : 6 * v.wm ≤ b) : Rel v y (x.wS (w6 x.w b m)) := by
  obtain ⟨r1, r2, r3, r4, r5, r6, r7, r8, r9, r10, r11, r12⟩ := hr
  refine ⟨r1, r2, r3, r4, fun j i hj hi => ?_, r6, r7, r8, r9, r10, r11, r12⟩
  show w6 x.w b m (6 * j + i) = _
  rw [w6_out _ _ _ (by omega)]
  exact r5 j i hj hi
/-- what the law has behind a move -/
def mvL (x : LV) (b : Nat) (m : Nat → Nat) (bef : Nat → Int32) (k : Int32) : LV := (dmv (x.wS (w6 x.w b m)) bef 48).ggS (upd x.gg 2 (x.gg 2 + k))
set_option maxRecDepth 100000 in
theorem rel_move {v : SV} {y : Int32} {x : LV} {T : Nat} {m : Nat → Nat} {bef : Nat → Int32} (hr : Rel v y x) (hi : Inv v T) (hbef : ∀ t, t < 48 → bef t = apF m v.near v.before t) : Rel (shV v m) y (mvL x (if v.wm < 4 then 6 * v.wm else 24) m bef (if v.wm < 4 then 1 else 0)) := by
  obtain ⟨r1, r2, r3, r4, r5, r6, r7, r8, r9, r10, r11, r12⟩ := id hr
  have hw4 : v.wm ≤ 4 := hi.1.1
  generalize hB : (if v.wm < 4 then 6 * v.wm else 24) = b
  have hb : 6 * v.wm ≤ b := by rw [← hB]; split <;> omega
  obtain ⟨k1, k2, k3, k4⟩ := dmv_keep (x.wS (w6 x.w b m)) bef 48
  have Q := dmv_at (x.wS (w6 x.w b m)) bef 48
  have eM : ∀ K, mvL x b m bef K = (dmv (x.wS (w6 x.w b m)) bef 48).ggS (upd x.gg 2 (x.gg 2 + K)) := fun K => rfl
  generalize dmv (x.wS (w6 x.w b m)) bef 48 = D at k1 k2 k3 k4 Q eM
  have hn : ∀ t, t < 48 → (shV v m).near t = bef t := fun t ht => by
    have e : (shV v m).near t = apF (mvU v.mv v.wm m v.wm) v.near v.before t := rfl
    rw [e, hbef t ht, show mvU v.mv v.wm m v.wm = m from if_pos rfl]
  have eg : ∀ j, ¬ j = 2 → (mvL x b m bef (if v.wm < 4 then 1 else 0)).gg j = x.gg j := fun j hj => by rw [eM]; exact pk_un hj
  have e2 : (mvL x b m bef (if v.wm < 4 then 1 else 0)).gg 2 = x.gg 2 + (if v.wm < 4 then 1 else 0) := by
    rw [eM]
    show upd x.gg 2 (x.gg 2 + (if v.wm < 4 then 1 else 0)) 2 = _
    exact pk_us
  refine ⟨fun t ht => ?_, fun t ht => ?_, fun t ht => ?_, fun t ht => ?_, fun j i hj hi => ?_, ?_, ?_, ?_, ?_, ?_, ?_, fun k hk => ?_⟩
  · rw [hn t ht, eM]
    exact ((Q t).1 ht).1
  · rw [eM]
    show D.f t = v.far t
    rw [k1]; exact r2 t ht
  · have e : (shV v m).since t = if (shV v m).near t = v.far t then -1 else if v.since t = -1 then v.now else v.since t := nu_at _ ht
    rw [e, hn t ht, eM]
    show D.u t = _
    rw [((Q t).1 ht).2.2]
    exact lu_is (rel_w hr m hb) hi.1 ht (bef t)
  · have e : (shV v m).ch t = if (shV v m).near t = fz_to v.near v.before 48 t then v.ch t else v.ch t ||| 1 := nc_at _ ht
    rw [e, hn t ht, fz_to_lt ht, eM]
    show D.h t = _
    rw [((Q t).1 ht).2.1]
    show (if x.n t = bef t then x.h t else x.h t ||| 1) = _
    rw [r1 t ht, r4 t ht]
    by_cases c : v.near t = bef t
    · rw [if_pos c, if_pos c.symm]
    · rw [if_neg c, if_neg (fun z => c z.symm)]
  · rw [eM]
    show D.w (6 * j + i) = nI (mvU v.mv v.wm m j i)
    rw [k2]
    show w6 x.w b m (6 * j + i) = nI (mvU v.mv v.wm m j i)
    have hj : j < (if v.wm < 4 then v.wm + 1 else v.wm) := hj
    by_cases c : j = v.wm
    · have c4 : v.wm < 4 := by
        rcases (show v.wm < 4 ∨ ¬ v.wm < 4 by omega) with z | z
        · exact z
        · rw [if_neg z] at hj; omega
      rw [if_pos c4] at hB
      have e : mvU v.mv v.wm m j = m := if_pos c
      rw [e, c, hB]
      exact w6_in x.w b m i hi
    · have e : mvU v.mv v.wm m j = v.mv j := if_neg c
      have hj2 : j < v.wm := by
        rcases (show v.wm < 4 ∨ ¬ v.wm < 4 by omega) with z | z
        · rw [if_pos z] at hj; omega
        · rw [if_neg z] at hj; exact hj
      rw [e, w6_out _ _ _ (by omega)]
      exact r5 j i hj2 hi
  · rw [eM]
    show ∀ k, k < v.kc → D.kn k = v.kp k + 1
    rw [k3]; exact r6
  · rw [eM]
    show ∀ k, v.kc ≤ k → k < 8 → D.kn k = 0
    rw [k3]; exact r7
  · rw [eg 0 (by omega)]; exact r8
  · rw [eg 1 (by omega)]; exact r9
  · show _ = nI (if v.wm < 4 then v.wm + 1 else v.wm)
    rw [e2, r10]
    by_cases c : v.wm < 4
    · rw [if_pos c, if_pos c]; exact nI_1 _
    · rw [if_neg c, if_neg c]; exact Int32.add_zero _
  · rw [eg 3 (by omega)]; exact r11
  · rw [eg (4 + k) (by omega)]; exact r12 k hk
theorem apF_near {v : SV} {T : Nat} {m : Nat → Nat} (hi : Inw v T) (hm : MOK m) (scr : Nat → Int32) (B : Nat) (hs : ∀ t, t < 48 → ∃ k, k < B ∧ scr t = nI k) (bef : Nat → Int32) : ∀ t, t < 48 → ∃ k, k < B ∧ apF m scr bef t = nI k := by
  intro t ht
  obtain ⟨a1, a2, a3, a4⟩ := id hm
  obtain ⟨p1, p2⟩ := apR_at m (fz_to scr bef 48) scr a3 (m 3) t
  show ∃ k, k < B ∧ apR m (fz_to scr bef 48) scr (m 3) t = nI k
  by_cases z : inb (m 4) (m 5) (m 2) (m 3) t
  · have b : srcT m t < 48 := by
      unfold inb at z
      unfold srcT
      omega
    rw [p1 z, fz_to_lt b]
    exact hs _ b
  · rw [p2 z]; exact hs t ht
set_option maxRecDepth 100000 in
theorem inv_move {v : SV} {T : Nat} {m : Nat → Nat} (hi : Inv v T) (hm : MOK m) (h1 : 1 ≤ m 2) : Inv (shV v m) T := by
  refine inv_nu (inw_nc ?_)
  obtain ⟨q1, q2, q3, q4, q5, q6, q7, q8, q9, hT⟩ := id hi.1
  refine ⟨?_, q2, fun j hj => ?_, q4, fun t ht => ?_, q6, q7, q8, q9, hT⟩
  · show (if v.wm < 4 then v.wm + 1 else v.wm) ≤ 4
    split <;> omega
  · show MOK (mvU v.mv v.wm m j) ∧ 1 ≤ mvU v.mv v.wm m j 2
    have hj : j < (if v.wm < 4 then v.wm + 1 else v.wm) := hj
    by_cases c : j = v.wm
    · have e : mvU v.mv v.wm m j = m := if_pos c
      rw [e]; exact ⟨hm, h1⟩
    · have e : mvU v.mv v.wm m j = v.mv j := if_neg c
      rw [e]
      refine q3 j ?_
      rcases (show v.wm < 4 ∨ ¬ v.wm < 4 by omega) with z | z
      · rw [if_pos z] at hj; omega
      · rw [if_neg z] at hj; exact hj
  · show ∃ k, k < 256 ∧ apF (mvU v.mv v.wm m v.wm) v.near v.before t = nI k
    rw [show mvU v.mv v.wm m v.wm = m from if_pos rfl]
    exact apF_near hi.1 hm v.near 256 q5 v.before t ht
theorem rel_look {v : SV} {y : Int32} {x : LV} (hr : Rel v y x) (t : Nat) : Rel (v.laS t) y (x.ggS (upd x.gg 1 (nI t))) := by
  obtain ⟨r1, r2, r3, r4, r5, r6, r7, r8, r9, r10, r11, r12⟩ := hr
  have eg : ∀ j, ¬ j = 1 → (x.ggS (upd x.gg 1 (nI t))).gg j = x.gg j := fun j hj => pk_un hj
  exact ⟨r1, r2, r3, r4, r5, r6, r7, (eg 0 (by omega)).trans r8, show upd x.gg 1 (nI t) 1 = nI t from pk_us, (eg 2 (by omega)).trans r10, (eg 3 (by omega)).trans r11, fun k hk => (eg (4 + k) (by omega)).trans (r12 k hk)⟩
theorem inv_look {v : SV} {T t : Nat} (hi : Inv v T) (ht : t < 48) : Inv (v.laS t) T := by
  obtain ⟨⟨q1, q2, q3, q4, q5, q6, q7, q8, q9, hT⟩, hu⟩ := hi
  exact ⟨⟨q1, q2, q3, ht, q5, q6, q7, q8, q9, hT⟩, hu⟩
end
section
/-! moves are told, on both sides -/
theorem sT_cong {m m' : Nat → Nat} (e : ∀ i, i < 6 → m i = m' i) (z : Nat) : sT m z = sT m' z ∧ dT m z = dT m' z := by
  unfold sT dT
  rw [e 0 (by omega), e 1 (by omega), e 2 (by omega), e 4 (by omega), e 5 (by omega)]
  exact ⟨rfl, rfl⟩
theorem shN_cong {m m' : Nat → Nat} (e : ∀ i, i < 6 → m i = m' i) (scr : Nat → Int32) : ∀ k, shN m scr k = shN m' scr k := by
  intro k
  induction k with
  | zero => rfl
  | succ k ih =>
    have ea : shA9 m k = shA9 m' k := by
      unfold shA9 dstN srcN
      rw [e 0 (by omega), e 1 (by omega), e 2 (by omega), e 3 (by omega), e 4 (by omega), e 5 (by omega)]
    show upd (shN m scr k) (dT m (shA9 m k)) (shN m scr k (sT m (shA9 m k))) = upd (shN m' scr k) (dT m' (shA9 m' k)) (shN m' scr k (sT m' (shA9 m' k)))
    rw [ih, ea, (sT_cong e _).1, (sT_cong e _).2]
/-- the law has told its first move -/
def tnL (x : LV) (m : Nat → Nat) : LV := LV.mk9 x.n (shN m x.f (m 2 * m 3)) (fz_to (fun t => luF (x.fS (shN m x.f (m 2 * m 3))) t (x.n t)) x.u 48) x.h (fz_to (fun k => x.w (k + 6)) x.w 18) x.kn (upd (upd x.gg 2 (x.gg 2 - 1)) 4 (x.gg 4 + 1))
theorem tnL_cong {m m' : Nat → Nat} (e : ∀ i, i < 6 → m i = m' i) (x : LV) : tnL x m = tnL x m' := by
  unfold tnL
  rw [shN_cong e, e 2 (by omega), e 3 (by omega)]
theorem fg_mv (v : SV) {told j : Nat} (h : j < v.wm - told) : (fgV v told).mv j = v.mv (told + j) := (fmF_at v.mv told (v.wm - told) j).1 h
theorem rel_fg {v : SV} {y : Int32} {x : LV} (hr : Rel v y x) : Rel (fgV v 0) y x := by
  obtain ⟨r1, r2, r3, r4, r5, r6, r7, r8, r9, r10, r11, r12⟩ := hr
  refine ⟨r1, r2, r3, r4, fun j i hj hi => ?_, r6, r7, r8, r9, r10, r11, fun k hk => ?_⟩
  · have hj : j < v.wm - 0 := hj
    rw [fg_mv v hj, Nat.zero_add]
    exact r5 j i (by omega) hi
  · show _ = upd v.sc 0 (v.sc 0 + nI 0) k
    by_cases z : k = 0
    · rw [z, pk_us, show nI 0 = 0 from rfl, Int32.add_zero]
      exact r12 0 (by omega)
    · rw [pk_un z]
      exact r12 k hk
theorem inv_fg {v : SV} {T : Nat} (h : Inv v T) : Inv (fgV v 0) T := by
  obtain ⟨⟨q1, q2, q3, q4, q5, q6, q7, q8, q9, hT⟩, hu⟩ := h
  refine ⟨⟨q1, q2, fun j hj => ?_, q4, q5, q6, q7, q8, q9, hT⟩, hu⟩
  have hj : j < v.wm - 0 := hj
  rw [fg_mv v hj, Nat.zero_add]
  exact q3 j (by omega)
theorem told_m {v : SV} {T told k : Nat} (hi : Inw (fgV v told) T) (hw : v.wm = told + (k + 1)) : MOK (v.mv told) ∧ 1 ≤ v.mv told 2 := by
  have h0 : 0 < v.wm - told := by omega
  have k := hi.2.2.1 0 h0
  rw [fg_mv v h0, Nat.add_zero] at k
  exact k
theorem told_w {v : SV} {y : Int32} {x : LV} {told k : Nat} (hr : Rel (fgV v told) y x) (hw : v.wm = told + (k + 1)) : ∀ i, i < 6 → x.w (0 + i) = nI (v.mv told i) := by
  intro i hi
  have h0 : 0 < v.wm - told := by omega
  have k := hr.2.2.2.2.1 0 i h0 hi
  rw [fg_mv v h0, Nat.add_zero, Nat.mul_zero] at k
  exact k
theorem rel_told {v : SV} {y : Int32} {x : LV} {T told k : Nat} (hr : Rel (fgV v told) y x) (hi : Inv (fgV v told) T) (hw : v.wm = told + (k + 1)) : Rel (fgV (nuV (afV v told)) (told + 1)) y (tnL x (v.mv told)) ∧ Inv (fgV (nuV (afV v told)) (told + 1)) T := by
  obtain ⟨hm, h1⟩ := told_m hi.1 hw
  obtain ⟨r1, r2, r3, r4, r5, r6, r7, r8, r9, r10, r11, r12⟩ := id hr
  have hge : ∀ t, t < 48 → (0 ≤ x.u t ↔ ¬ x.u t = -1) := fun t ht => by
    rw [r3 t ht]
    exact inv_ge hi.1 ht
  have hf : ∀ t, t < 48 → shN (v.mv told) x.f (v.mv told 2 * v.mv told 3) t = apF (v.mv told) v.far v.before t := shN_ap hm h1 x.f v.far v.before r2
  have w4 : v.wm ≤ 4 + told := by
    have : v.wm - told ≤ 4 := hi.1.1
    omega
  refine ⟨⟨r1, hf, fun t ht => ?_, r4, fun j i hj hi6 => ?_, r6, r7, ?_, ?_, ?_, ?_, fun j hj => ?_⟩, ?_⟩
  · have e : (fgV (nuV (afV v told)) (told + 1)).since t = if v.near t = apF (v.mv told) v.far v.before t then -1 else if v.since t = -1 then v.now else v.since t := nu_at (afV v told) ht
    rw [e]
    show fz_to (fun t => luF (x.fS (shN (v.mv told) x.f (v.mv told 2 * v.mv told 3))) t (x.n t)) x.u 48 t = _
    rw [fz_to_lt ht]
    show (if x.n t = shN (v.mv told) x.f (v.mv told 2 * v.mv told 3) t then -1 else if 0 ≤ x.u t then x.u t else x.gg 0) = _
    have r1t : x.n t = v.near t := r1 t ht
    have r3t : x.u t = v.since t := r3 t ht
    have r8t : x.gg 0 = v.now := r8
    have hg := hge t ht
    rw [r3t] at hg
    rw [hf t ht, r1t, r3t, r8t]
    by_cases a : v.near t = apF (v.mv told) v.far v.before t
    · rw [if_pos a, if_pos a]
    · rw [if_neg a, if_neg a]
      by_cases b : v.since t = -1
      · rw [if_pos b, if_neg (fun z => (hg.mp z) b)]
      · rw [if_neg b, if_pos (hg.mpr b)]
  · have hj : j < v.wm - (told + 1) := hj
    have e : (fgV (nuV (afV v told)) (told + 1)).mv j = v.mv (told + 1 + j) := fg_mv (nuV (afV v told)) hj
    rw [e]
    show fz_to (fun k => x.w (k + 6)) x.w 18 (6 * j + i) = _
    rw [fz_to_lt (by omega)]
    have hj1 : j + 1 < v.wm - told := by omega
    have k := r5 (j + 1) i hj1 hi6
    rw [fg_mv v hj1] at k
    rw [show told + 1 + j = told + (j + 1) by omega, ← k]
    show x.w (6 * j + i + 6) = _
    rw [show 6 * j + i + 6 = 6 * (j + 1) + i by omega]
  · show upd (upd x.gg 2 (x.gg 2 - 1)) 4 (x.gg 4 + 1) 0 = _
    rw [pk_un (by omega), pk_un (by omega)]; exact r8
  · show upd (upd x.gg 2 (x.gg 2 - 1)) 4 (x.gg 4 + 1) 1 = _
    rw [pk_un (by omega), pk_un (by omega)]; exact r9
  · show upd (upd x.gg 2 (x.gg 2 - 1)) 4 (x.gg 4 + 1) 2 = nI (v.wm - (told + 1))
    have r10 : x.gg 2 = nI (v.wm - told) := r10
    rw [pk_un (by omega), pk_us, r10, show v.wm - told = k + 1 by omega, show v.wm - (told + 1) = k by omega]
    exact nI_pred k
  · show upd (upd x.gg 2 (x.gg 2 - 1)) 4 (x.gg 4 + 1) 3 = _
    rw [pk_un (by omega), pk_un (by omega)]; exact r11
  · show upd (upd x.gg 2 (x.gg 2 - 1)) 4 (x.gg 4 + 1) (4 + j) = upd v.sc 0 (v.sc 0 + nI (told + 1)) j
    have k : x.gg (4 + j) = upd v.sc 0 (v.sc 0 + nI told) j := r12 j hj
    by_cases z : j = 0
    · rw [z] at k ⊢
      rw [pk_us] at k
      have k : x.gg 4 = v.sc 0 + nI told := k
      rw [pk_us, pk_us, k, ← nI_1, Int32.add_assoc]
    · rw [pk_un z] at k
      rw [pk_un (by omega), pk_un (by omega), pk_un z]
      exact k
  · have hq : Inw (fgV (afV v told) (told + 1)) T := by
      obtain ⟨q1, q2, q3, q4, q5, q6, q7, q8, q9, hT⟩ := id hi.1
      refine ⟨?_, q2, fun j hj => ?_, q4, q5, ?_, q7, q8, q9, hT⟩
      · show v.wm - (told + 1) ≤ 4
        omega
      · have hj : j < v.wm - (told + 1) := hj
        have e : (fgV (afV v told) (told + 1)).mv j = v.mv (told + 1 + j) := fg_mv (afV v told) hj
        have hj1 : j + 1 < v.wm - told := by omega
        have k := q3 (j + 1) hj1
        rw [fg_mv v hj1] at k
        rw [e, show told + 1 + j = told + (j + 1) by omega]
        exact k
      · exact apF_near hi.1 hm v.far 2000 q6 v.before
    exact inv_nu hq
/-- the law's telling -/
def mX (x : LV) : Nat → Nat := fun i => (x.w i).toNatClampNeg
def tlL (b : Int32) : LV → Nat → Nat → Nat × LV
  | x, told, 0 => (told, x)
  | x, told, k + 1 => if b - nI told * 2 < 2 then (told, x) else tlL b (tnL x (mX x)) (told + 1) k
theorem mX_is {v : SV} {y : Int32} {x : LV} {T told k : Nat} (hr : Rel (fgV v told) y x) (hi : Inw (fgV v told) T) (hw : v.wm = told + (k + 1)) : ∀ i, i < 6 → v.mv told i = mX x i := by
  intro i hi6
  obtain ⟨⟨a1, a2, a3, a4⟩, -⟩ := told_m hi hw
  have e := told_w hr hw i hi6
  rw [Nat.zero_add] at e
  have b : v.mv told i < 2 ^ 31 := by
    rcases (show i = 0 ∨ i = 1 ∨ i = 2 ∨ i = 3 ∨ i = 4 ∨ i = 5 by omega) with rfl | rfl | rfl | rfl | rfl | rfl <;> omega
  unfold mX
  rw [e, nI_clamp b]
theorem rel_tell {y : Int32} {T : Nat} (b : Int32) : ∀ (k : Nat) (v : SV) (x : LV) (told : Nat), v.wm = told + k → Rel (fgV v told) y x → Inv (fgV v told) T → (tlF b v told k).1 = (tlL b x told k).1 ∧ Rel (fgV (tlF b v told k).2 (tlF b v told k).1) y (tlL b x told k).2 ∧ Inv (fgV (tlF b v told k).2 (tlF b v told k).1) T := by
  intro k
  induction k with
  | zero => intro v x told _ hr hi; exact ⟨rfl, hr, hi⟩
  | succ k ih =>
    intro v x told hw hr hi
    have e1 : tlF b v told (k + 1) = if b - nI told * 2 < 2 then (told, v) else tlF b (nuV (afV v told)) (told + 1) k := rfl
    have e2 : tlL b x told (k + 1) = if b - nI told * 2 < 2 then (told, x) else tlL b (tnL x (mX x)) (told + 1) k := rfl
    rw [e1, e2]
    by_cases z : b - nI told * 2 < 2
    · rw [if_pos z, if_pos z]
      exact ⟨rfl, hr, hi⟩
    · rw [if_neg z, if_neg z]
      obtain ⟨k1, k2⟩ := rel_told hr hi hw
      rw [tnL_cong (mX_is hr hi.1 hw)] at k1
      exact ih (nuV (afV v told)) (tnL x (mX x)) (told + 1) (by show v.wm = _; omega) k1 k2
end
section
/-! the known pictures; a tile is sent, on both sides -/
theorem fpl_le (kn : Nat → Int32) (y : Int32) : ∀ k i, i ≤ fpl kn y i k ∧ fpl kn y i k ≤ i + k := by
  intro k
  induction k with
  | zero => intro i; exact ⟨Nat.le_refl _, Nat.le_refl _⟩
  | succ k ih =>
    intro i
    show i ≤ (if kn i = y then i else fpl kn y (i + 1) k) ∧ (if kn i = y then i else fpl kn y (i + 1) k) ≤ i + (k + 1)
    have := ih (i + 1)
    split <;> omega
theorem plcF_fpl (kp : Nat → Int32) (x : Int32) : ∀ (k i : Nat), plcF kp x i k = if fpl kp x i k = i + k then -1 else nI (fpl kp x i k) := by
  intro k
  induction k with
  | zero => intro i; exact (if_pos rfl).symm
  | succ k ih =>
    intro i
    show (if kp i = x then nI i else plcF kp x (i + 1) k) = if (if kp i = x then i else fpl kp x (i + 1) k) = i + (k + 1) then -1 else nI (if kp i = x then i else fpl kp x (i + 1) k)
    by_cases h : kp i = x
    · rw [if_pos h, if_pos h, if_neg (by omega)]
    · rw [if_neg h, if_neg h, ih (i + 1), show i + 1 + k = i + (k + 1) by omega]
theorem fpl_none (kn : Nat → Int32) (y : Int32) : ∀ k i, (∀ j, i ≤ j → j < i + k → ¬ kn j = y) → fpl kn y i k = i + k := by
  intro k
  induction k with
  | zero => intro i _; rfl
  | succ k ih =>
    intro i h
    show (if kn i = y then i else fpl kn y (i + 1) k) = i + (k + 1)
    rw [if_neg (h i (Nat.le_refl _) (by omega)), ih (i + 1) (fun j h1 h2 => h j (by omega) (by omega))]
    omega
theorem fpl_two {kp kn : Nat → Int32} {q : Int32} {kc : Nat} (h8 : kc ≤ 8) (h1 : ∀ k, k < kc → (kn k = q + 1 ↔ kp k = q)) (h2 : ∀ k, kc ≤ k → k < 8 → ¬ kn k = q + 1) : ∀ d i, i + d = kc → fpl kn (q + 1) i (8 - i) = if fpl kp q i d = kc then 8 else fpl kp q i d := by
  intro d
  induction d with
  | zero =>
    intro i hi
    have e : fpl kp q i 0 = i := rfl
    rw [e, if_pos (by omega), fpl_none kn (q + 1) (8 - i) i (fun j j1 j2 => h2 j (by omega) (by omega))]
    omega
  | succ d ih =>
    intro i hi
    have k := h1 i (by omega)
    rw [show 8 - i = (8 - (i + 1)) + 1 by omega]
    show (if kn i = q + 1 then i else fpl kn (q + 1) (i + 1) (8 - (i + 1))) = if (if kp i = q then i else fpl kp q (i + 1) d) = kc then 8 else (if kp i = q then i else fpl kp q (i + 1) d)
    by_cases z : kp i = q
    · rw [if_pos z, if_pos (k.mpr z), if_neg (by omega)]
    · rw [if_neg z, if_neg (fun y => z (k.mp y))]
      exact ih (i + 1) (by omega)
theorem nI_s1 {p : Nat} (hp : p < 256) : ¬ (0 : Int32) = nI p + 1 := by
  rw [nI_1]
  intro z
  have := (nI_eq (a := 0) (b := p + 1) (by omega) (by omega)).mp z
  omega
theorem rk_two {v : SV} {y : Int32} {x : LV} {T p : Nat} {q : Int32} (hr : Rel v y x) (hi : Inw v T) (hp : p < 256) (hq : q = nI p) : fpl x.kn (q + 1) 0 8 = (if fpl v.kp q 0 v.kc = v.kc then 8 else fpl v.kp q 0 v.kc) ∧ fpl v.kp q 0 v.kc ≤ v.kc ∧ plcF v.kp q 0 v.kc = if fpl v.kp q 0 v.kc = v.kc then -1 else nI (fpl v.kp q 0 v.kc) := by
  obtain ⟨r1, r2, r3, r4, r5, r6, r7, -⟩ := hr
  have e := plcF_fpl v.kp q v.kc 0
  rw [Nat.zero_add] at e
  have l := (fpl_le v.kp q v.kc 0).2
  refine ⟨fpl_two hi.2.1 (fun k hk => ?_) (fun k k1 k2 => ?_) v.kc 0 (Nat.zero_add _), by omega, e⟩
  · rw [r6 k hk]
    exact ⟨fun z => Int32.add_left_inj 1 |>.mp z, fun z => by rw [z]⟩
  · rw [r7 k k1 k2, hq]
    exact nI_s1 hp
theorem rk_A {v : SV} {y : Int32} {x : LV} {T p : Nat} {q : Int32} (hr : Rel v y x) (hi : Inw v T) (hp : p < 256) (hq : q = nI p) : meA x.kn (q + 1) = if plcF v.kp q 0 v.kc = -1 then 0 else 1 := by
  obtain ⟨e1, e2, e3⟩ := rk_two hr hi hp hq
  have h8 := hi.2.1
  unfold meA
  rw [e1, e3]
  by_cases z : fpl v.kp q 0 v.kc = v.kc
  · rw [if_pos z, if_pos z, if_pos rfl, if_pos rfl]
  · rw [if_neg z, if_neg z, if_neg (by omega), if_neg (nI_m1 (by omega))]
theorem rk_K {v : SV} {y : Int32} {x : LV} {T p : Nat} {q : Int32} (hr : Rel v y x) (hi : Inw v T) (hp : p < 256) (hq : q = nI p) : (∀ k, k < mtC v.kp v.kc q → meK x.kn (q + 1) k = mtP v.kp v.kc q k + 1) ∧ (∀ k, mtC v.kp v.kc q ≤ k → k < 8 → meK x.kn (q + 1) k = 0) ∧ mtC v.kp v.kc q ≤ 8 ∧ ∀ k, k < mtC v.kp v.kc q → ∃ j, j < 256 ∧ mtP v.kp v.kc q k = nI j := by
  obtain ⟨e1, e2, e3⟩ := rk_two hr hi hp hq
  obtain ⟨r1, r2, r3, r4, r5, r6, r7, -⟩ := hr
  have hkp := hi.2.2.2.2.2.2.2.1
  have h8 := hi.2.1
  have hN : meN x.kn (q + 1) = if fpl v.kp q 0 v.kc = v.kc then 7 else fpl v.kp q 0 v.kc := by
    unfold meN
    rw [e1]
    by_cases z : fpl v.kp q 0 v.kc = v.kc
    · rw [if_pos z, if_pos rfl, if_pos z]
    · rw [if_neg z, if_neg (by omega), if_neg z]
  have hG : mtG v.kp v.kc q = if fpl v.kp q 0 v.kc = v.kc then (if v.kc < 8 then v.kc else 7) else fpl v.kp q 0 v.kc := by
    unfold mtG
    rw [e3]
    by_cases z : fpl v.kp q 0 v.kc = v.kc
    · rw [if_pos z, if_pos rfl, if_pos z]
    · rw [if_neg z, if_neg (nI_m1 (by omega)), if_neg z, nI_clamp (by omega)]
  have hC : mtC v.kp v.kc q = if fpl v.kp q 0 v.kc = v.kc then (if v.kc < 8 then v.kc + 1 else v.kc) else v.kc := by
    unfold mtC
    rw [e3]
    by_cases z : fpl v.kp q 0 v.kc = v.kc
    · rw [if_pos z, if_pos rfl, if_pos z]
    · rw [if_neg z, if_neg (nI_m1 (by omega)), if_neg z]
  generalize fpl v.kp q 0 v.kc = g at *
  -- at the places
  have A : ∀ k, meK x.kn (q + 1) k = if k = 0 then q + 1 else if k ≤ meN x.kn (q + 1) then x.kn (k - 1) else x.kn k := fun k => by
    show upd (shF x.kn (meN x.kn (q + 1)) 0) 0 (q + 1) k = _
    by_cases z : k = 0
    · rw [if_pos z, z, pk_us]
    · rw [if_neg z, pk_un z]
      show (if 0 < k ∧ k ≤ meN x.kn (q + 1) then x.kn (k - 1) else x.kn k) = _
      by_cases y : k ≤ meN x.kn (q + 1)
      · rw [if_pos ⟨by omega, y⟩, if_pos y]
      · rw [if_neg (fun h => y h.2), if_neg y]
  have B : ∀ k, mtP v.kp v.kc q k = if k = 0 then q else if k ≤ mtG v.kp v.kc q then v.kp (k - 1) else v.kp k := fun k => by
    show upd (shF v.kp (mtG v.kp v.kc q) 0) 0 q k = _
    by_cases z : k = 0
    · rw [if_pos z, z, pk_us]
    · rw [if_neg z, pk_un z]
      show (if 0 < k ∧ k ≤ mtG v.kp v.kc q then v.kp (k - 1) else v.kp k) = _
      by_cases y : k ≤ mtG v.kp v.kc q
      · rw [if_pos ⟨by omega, y⟩, if_pos y]
      · rw [if_neg (fun h => y h.2), if_neg y]
  by_cases z : g = v.kc
  · rw [if_pos z] at hN hG hC
    by_cases c : v.kc < 8
    · rw [if_pos c] at hG hC
      refine ⟨fun k hk => ?_, fun k k1 k2 => ?_, by omega, fun k hk => ?_⟩
      · rw [A, B, hN, hG]
        by_cases w : k = 0
        · rw [if_pos w, if_pos w]
        · rw [if_neg w, if_neg w, if_pos (by omega), if_pos (by omega)]
          exact r6 _ (by omega)
      · rw [A, hN, if_neg (by omega), if_pos (by omega)]
        exact r7 _ (by omega) (by omega)
      · rw [B, hG]
        by_cases w : k = 0
        · rw [if_pos w]; exact ⟨p, hp, hq⟩
        · rw [if_neg w, if_pos (by omega)]; exact hkp _ (by omega)
    · rw [if_neg c] at hG hC
      refine ⟨fun k hk => ?_, fun k k1 k2 => by omega, by omega, fun k hk => ?_⟩
      · rw [A, B, hN, hG]
        by_cases w : k = 0
        · rw [if_pos w, if_pos w]
        · rw [if_neg w, if_neg w, if_pos (by omega), if_pos (by omega)]
          exact r6 _ (by omega)
      · rw [B, hG]
        by_cases w : k = 0
        · rw [if_pos w]; exact ⟨p, hp, hq⟩
        · rw [if_neg w, if_pos (by omega)]; exact hkp _ (by omega)
  · rw [if_neg z] at hN hG hC
    refine ⟨fun k hk => ?_, fun k k1 k2 => ?_, by omega, fun k hk => ?_⟩
    · rw [A, B, hN, hG]
      by_cases w : k = 0
      · rw [if_pos w, if_pos w]
      · rw [if_neg w, if_neg w]
        by_cases u : k ≤ g
        · rw [if_pos u, if_pos u]; exact r6 _ (by omega)
        · rw [if_neg u, if_neg u]; exact r6 _ (by omega)
    · rw [A, hN, if_neg (by omega), if_neg (by omega)]
      exact r7 _ (by omega) (by omega)
    · rw [B, hG]
      by_cases w : k = 0
      · rw [if_pos w]; exact ⟨p, hp, hq⟩
      · rw [if_neg w]
        by_cases u : k ≤ g
        · rw [if_pos u]; exact hkp _ (by omega)
        · rw [if_neg u]; exact hkp _ (by omega)
/-- the way of sending, its cost, and what then stands -/
def wtN (x : LV) (k : Nat) : Nat := if meA x.kn (x.n k + 1) = 1 then 1 else if kdL x.n x.h k = 2 then 2 else 3
def coL (x : LV) (k : Nat) : Int32 := if wtN x k < 3 then nI (wtN x k) else if kdL x.n x.h k = 1 then 6 else 2
def sxF (x : LV) (k : Nat) : LV := x.fS (upd x.f k (if wtN x k = 2 then 1000 + x.n k / 16 else x.n k))
def sxK (x : LV) (k : Nat) : LV := if wtN x k = 2 then sxF x k else (sxF x k).knS (meK x.kn (x.n k + 1))
def sxG (x : LV) (n : Nat) : LV := x.ggS (upd x.gg (4 + n) (x.gg (4 + n) + 1))
def sxV (x : LV) (k : Nat) : LV := sxG (lkV (sxK x k) k) (wtN x k)
def sxR (x : LV) (k : Nat) (c : Int32) : Int32 × LV := if c < coL x k then (0, x) else if wtN x k = 2 ∧ x.f k = 1000 + x.n k / 16 then (0, x) else (coL x k, sxV x k)
theorem kd_is {v : SV} {y : Int32} {x : LV} {t : Nat} (hr : Rel v y x) (ht : t < 48) : kdL x.n x.h t = kdI v t := by
  unfold kdL kdI
  rw [hr.1 t ht, hr.2.2.2.1 t ht]
theorem ro_all : ∀ k : Fin 256, ∃ j : Fin 16, 1000 + nI k.val / 16 = nI (1000 + j.val) := by decide +kernel
theorem inv_sp {v : SV} {y : Int32} {x : LV} {T t w : Nat} (hr : Rel v y x) (hi : Inv v T) (ht : t < 48) : Inv (spV v t w) T := by
  obtain ⟨⟨q1, q2, q3, q4, q5, q6, q7, q8, ⟨N, n1, n2, n3⟩, hT⟩, hu⟩ := id hi
  obtain ⟨p, hp, ep⟩ := q5 t ht
  obtain ⟨k1, k2, k3, k4⟩ := rk_K hr hi.1 hp ep
  refine ⟨⟨q1, k3, q3, q4, q5, fun i hi => ?_, q7, k4, ⟨N, n1, n2, fun i hi => ?_⟩, hT⟩, fun i hi => ?_⟩
  · show ∃ k, k < 2000 ∧ upd v.far t (v.near t) i = nI k
    by_cases z : i = t
    · rw [z, pk_us]; exact ⟨p, by omega, ep⟩
    · rw [pk_un z]; exact q6 i hi
  · show upd v.since t (-1) i = -1 ∨ _
    by_cases z : i = t
    · rw [z, pk_us]; exact Or.inl rfl
    · show _ ∨ ∃ k, k ≤ N ∧ upd v.since t (-1) i = nI k
      rw [pk_un z]; exact n3 i hi
  · show upd v.since t (-1) i = -1 ↔ v.near i = upd v.far t (v.near t) i
    by_cases z : i = t
    · rw [z, pk_us, pk_us]; exact ⟨fun _ => rfl, fun _ => rfl⟩
    · rw [pk_un z, pk_un z]; exact hu i hi
theorem inv_sr {v : SV} {T t : Nat} (hi : Inv v T) (ht : t < 48) (hu9 : ¬ v.since t = -1) : Inv (srV v t) T := by
  obtain ⟨⟨q1, q2, q3, q4, q5, q6, q7, q8, q9, hT⟩, hu⟩ := hi
  obtain ⟨p, hp, ep⟩ := q5 t ht
  obtain ⟨j, ej⟩ := ro_all ⟨p, hp⟩
  have er : roI v t = nI (1000 + j.val) := by
    show 1000 + v.near t / 16 = _
    rw [ep]; exact ej
  have hj := j.isLt
  refine ⟨⟨q1, q2, q3, q4, q5, fun i hi => ?_, q7, q8, q9, hT⟩, fun i hi => ?_⟩
  · show ∃ k, k < 2000 ∧ upd v.far t (roI v t) i = nI k
    by_cases z : i = t
    · rw [z, pk_us]; exact ⟨1000 + j.val, by omega, er⟩
    · rw [pk_un z]; exact q6 i hi
  · show v.since i = -1 ↔ v.near i = upd v.far t (roI v t) i
    by_cases z : i = t
    · rw [z, pk_us, er, ep]
      refine ⟨fun y => absurd y hu9, fun y => ?_⟩
      have := (nI_eq (a := p) (b := 1000 + j.val) (by omega) (by omega)).mp y
      omega
    · rw [pk_un z]; exact hu i hi
theorem lu_same (x : LV) (t : Nat) : luF x t (x.f t) = -1 := if_pos rfl
theorem gg_rel {v : SV} {x : LV} {n : Nat} (hn : n < 4) (h : ∀ k, k < 4 → x.gg (4 + k) = v.sc k) : ∀ k, k < 4 → (sxG x n).gg (4 + k) = upd v.sc n (v.sc n + 1) k := by
  intro k hk
  show upd x.gg (4 + n) (x.gg (4 + n) + 1) (4 + k) = _
  by_cases z : k = n
  · rw [z, pk_us, pk_us, h n hn]
  · rw [pk_un (by omega), pk_un z]
    exact h k hk
theorem rel_sp {v : SV} {y : Int32} {x : LV} {T t w : Nat} (hr : Rel v y x) (hi : Inv v T) (ht : t < 48) (hw : wtN x t = w) (hw2 : ¬ w = 2) (hw4 : w < 4) : Rel (spV v t w) y (sxV x t) := by
  obtain ⟨r1, r2, r3, r4, r5, r6, r7, r8, r9, r10, r11, r12⟩ := id hr
  obtain ⟨p, hp, ep⟩ := hi.1.2.2.2.2.1 t ht
  obtain ⟨k1, k2, k3, k4⟩ := rk_K hr hi.1 hp ep
  have en := r1 t ht
  have e1 : sxV x t = sxG (((x.fS (upd x.f t (x.n t))).knS (meK x.kn (x.n t + 1))).uS (upd x.u t (-1))) w := by
    unfold sxV sxK sxF
    rw [hw, if_neg hw2, if_neg hw2, lkV_eq]
    have : luF ((x.fS (upd x.f t (x.n t))).knS (meK x.kn (x.n t + 1))) t (x.n t) = -1 := by
      unfold luF
      exact if_pos (show x.n t = upd x.f t (x.n t) t from pk_us.symm)
    show sxG (((x.fS (upd x.f t (x.n t))).knS (meK x.kn (x.n t + 1))).uS (upd x.u t (luF ((x.fS (upd x.f t (x.n t))).knS (meK x.kn (x.n t + 1))) t (x.n t)))) w = _
    rw [this]
  rw [e1]
  have eg : ∀ j, j < 4 → (sxG (((x.fS (upd x.f t (x.n t))).knS (meK x.kn (x.n t + 1))).uS (upd x.u t (-1))) w).gg j = x.gg j := fun j hj => pk_un (by omega)
  refine ⟨r1, up_eq r2 en, up_eq r3 rfl, r4, r5, ?_, ?_, (eg 0 (by omega)).trans r8, (eg 1 (by omega)).trans r9, (eg 2 (by omega)).trans r10, (eg 3 (by omega)).trans r11, gg_rel hw4 r12⟩
  · show ∀ k, k < mtC v.kp v.kc (v.near t) → meK x.kn (x.n t + 1) k = mtP v.kp v.kc (v.near t) k + 1
    rw [en]; exact k1
  · show ∀ k, mtC v.kp v.kc (v.near t) ≤ k → k < 8 → meK x.kn (x.n t + 1) k = 0
    rw [en]; exact k2
theorem rel_sr {v : SV} {y : Int32} {x : LV} {T t : Nat} (hr : Rel v y x) (hi : Inv v T) (ht : t < 48) (hu9 : ¬ v.since t = -1) (hw : wtN x t = 2) : Rel (srV v t) y (sxV x t) := by
  obtain ⟨r1, r2, r3, r4, r5, r6, r7, r8, r9, r10, r11, r12⟩ := id hr
  obtain ⟨p, hp, ep⟩ := hi.1.2.2.2.2.1 t ht
  obtain ⟨j, ej⟩ := ro_all ⟨p, hp⟩
  have hj := j.isLt
  have en : x.n t = nI p := (r1 t ht).trans ep
  have er : 1000 + x.n t / 16 = roI v t := by
    show _ = 1000 + v.near t / 16
    rw [r1 t ht]
  have e1 : sxV x t = sxG ((x.fS (upd x.f t (roI v t))).uS (upd x.u t (x.u t))) 2 := by
    unfold sxV sxK sxF
    rw [hw, if_pos rfl, if_pos rfl, lkV_eq, er]
    have : luF (x.fS (upd x.f t (roI v t))) t (x.n t) = x.u t := by
      unfold luF
      have ne : ¬ x.n t = upd x.f t (roI v t) t := by
        rw [pk_us, ← er, en]
        have ej : 1000 + nI p / 16 = nI (1000 + j.val) := ej
        rw [ej]
        intro z
        have := (nI_eq (a := p) (b := 1000 + j.val) (by omega) (by omega)).mp z
        omega
      have ge : 0 ≤ x.u t := by
        rw [r3 t ht]
        exact (inv_ge hi.1 ht).mpr hu9
      exact (if_neg ne).trans (if_pos ge)
    show sxG ((x.fS (upd x.f t (roI v t))).uS (upd x.u t (luF (x.fS (upd x.f t (roI v t))) t (x.n t)))) 2 = _
    rw [this]
  rw [e1, upd_id]
  have eg : ∀ j, j < 4 → (sxG ((x.fS (upd x.f t (roI v t))).uS x.u) 2).gg j = x.gg j := fun j hj => pk_un (by omega)
  exact ⟨r1, up_eq r2 rfl, r3, r4, r5, r6, r7, (eg 0 (by omega)).trans r8, (eg 1 (by omega)).trans r9, (eg 2 (by omega)).trans r10, (eg 3 (by omega)).trans r11, gg_rel (by omega) r12⟩
theorem rel_st {v : SV} {y : Int32} {x : LV} {T t : Nat} (hr : Rel v y x) (hi : Inv v T) (ht : t < 48) (hu9 : ¬ v.since t = -1) (c : Int32) : (stR v t c).1 = (sxR x t c).1 ∧ Rel (stR v t c).2 y (sxR x t c).2 ∧ Inv (stR v t c).2 T := by
  obtain ⟨p, hp, ep⟩ := hi.1.2.2.2.2.1 t ht
  have hA := rk_A hr hi.1 hp ep
  have en := hr.1 t ht
  have ek := kd_is hr ht
  rw [← en] at hA
  unfold stR sxR
  by_cases a : plcF v.kp (v.near t) 0 v.kc = -1
  · rw [if_pos a]
    rw [en, if_pos a] at hA
    by_cases b : kdI v t = 2
    · have hw : wtN x t = 2 := by
        unfold wtN
        rw [en, hA, if_neg (by decide), ek, if_pos b]
      have hc : coL x t = 2 := by
        unfold coL
        rw [hw]
        rfl
      have er : 1000 + x.n t / 16 = roI v t := by
        show _ = 1000 + v.near t / 16
        rw [en]
      rw [if_pos b, hc, hw, er, hr.2.1 t ht]
      unfold srR
      by_cases z : c < 2
      · rw [if_pos z, if_pos z]; exact ⟨rfl, hr, hi⟩
      · rw [if_neg z, if_neg z]
        by_cases q : v.far t = roI v t
        · rw [if_pos q, if_pos ⟨rfl, q⟩]; exact ⟨rfl, hr, hi⟩
        · rw [if_neg q, if_neg (fun h => q h.2)]
          exact ⟨rfl, rel_sr hr hi ht hu9 hw, inv_sr hi ht hu9⟩
    · have hw : wtN x t = 3 := by
        unfold wtN
        rw [en, hA, if_neg (by decide), ek, if_neg b]
      have hc : coL x t = wcI (v.near t) := by
        unfold coL
        rw [hw, if_neg (by decide), ek]
        have n4 : bcI (v.ch t) < 4 := Classical.byContradiction (fun z => b (kd_2.mpr z))
        unfold kdI wcI
        rw [if_pos n4]
        by_cases q : v.near t < 64
        · rw [if_pos q, if_pos q]; rfl
        · rw [if_neg q, if_neg q]; rfl
      rw [if_neg b, hc, hw]
      unfold spR
      by_cases z : c < wcI (v.near t)
      · rw [if_pos z, if_pos z]; exact ⟨rfl, hr, hi⟩
      · rw [if_neg z, if_neg z, if_neg (fun h => absurd h.1 (by decide))]
        exact ⟨rfl, rel_sp hr hi ht hw (by decide) (by decide), inv_sp hr hi ht⟩
  · rw [if_neg a]
    rw [en, if_neg a] at hA
    have hw : wtN x t = 1 := by
      unfold wtN
      rw [en, hA, if_pos rfl]
    have hc : coL x t = 1 := by
      unfold coL
      rw [hw]
      rfl
    rw [hc, hw]
    unfold spR
    by_cases z : c < 1
    · rw [if_pos z, if_pos z]; exact ⟨rfl, hr, hi⟩
    · rw [if_neg z, if_neg z, if_neg (fun h => absurd h.1 (by decide))]
      exact ⟨rfl, rel_sp hr hi ht hw (by decide) (by decide), inv_sp hr hi ht⟩
end
section
/-! a step, on both sides -/
def sndL (x : LV) (o : Nat → Int32) (c : Int32) : Nat → Int32 × LV
  | 0 => (c, x)
  | p + 1 => ((sndL x o c p).1 - (sxR (sndL x o c p).2 (o p).toNatClampNeg (sndL x o c p).1).1, (sxR (sndL x o c p).2 (o p).toNatClampNeg (sndL x o c p).1).2)
theorem stR_since (v : SV) (t : Nat) (c : Int32) {i : Nat} (hi : ¬ i = t) : (stR v t c).2.since i = v.since i := by
  have sp : ∀ w k, (spR v t w k c).2.since i = v.since i := by
    intro w k
    unfold spR
    split
    · rfl
    · exact pk_un hi
  have sr : (srR v t c).2.since i = v.since i := by
    unfold srR
    split
    · rfl
    · split <;> rfl
  unfold stR
  split
  · split
    · exact sr
    · exact sp _ _
  · exact sp _ _
theorem rel_snd {v : SV} {y : Int32} {x : LV} {T n : Nat} {w : Nat → Int32} {o : Nat → Int32} (hr : Rel v y x) (hi : Inv v T) (hs : srt w (unl v) o n 48) (ho : ∀ p, p < n → v.order p = o p) (c : Int32) : ∀ p, p ≤ n → (saF v c p).1 = (sndL x o c p).1 ∧ Rel (saF v c p).2 y (sndL x o c p).2 ∧ Inv (saF v c p).2 T ∧ (saF v c p).2.order = v.order ∧ ∀ i, i < 48 → (∀ q, q < p → ¬ o q = nI i) → (saF v c p).2.since i = v.since i := by
  intro p
  induction p with
  | zero => intro _; exact ⟨rfl, hr, hi, rfl, fun _ _ _ => rfl⟩
  | succ p ih =>
    intro hp
    obtain ⟨h1, h2, h3, h4, h5⟩ := ih (by omega)
    obtain ⟨i, i1, i2, i3⟩ := hs.1 p (by omega)
    have e1 : saF v c (p + 1) = ((saF v c p).1 - (stR (saF v c p).2 ((saF v c p).2.order p).toNatClampNeg (saF v c p).1).1, (stR (saF v c p).2 ((saF v c p).2.order p).toNatClampNeg (saF v c p).1).2) := rfl
    have e2 : sndL x o c (p + 1) = ((sndL x o c p).1 - (sxR (sndL x o c p).2 (o p).toNatClampNeg (sndL x o c p).1).1, (sxR (sndL x o c p).2 (o p).toNatClampNeg (sndL x o c p).1).2) := rfl
    have ei : (o p).toNatClampNeg = i := by rw [i2]; exact nI_clamp (by omega)
    rw [e1, e2, h4, ho p (by omega), ei, ← h1]
    have hun : ¬ (saF v c p).2.since i = -1 := by
      rw [h5 i i1 (fun q hq z => by
        have := srt_inj hs (show q < n by omega) (show p < n by omega) (by rw [z, i2])
        omega)]
      exact i3
    obtain ⟨s1, s2, s3⟩ := rel_st h2 h3 i1 hun (saF v c p).1
    refine ⟨by rw [s1], s2, s3, (stR_ord _ _ _).1.trans h4, fun k hk hq => ?_⟩
    have hki : ¬ k = i := fun z => hq p (by omega) (by rw [i2, z])
    rw [stR_since _ _ _ hki]
    exact h5 k hk (fun q q1 => hq q (by omega))
/-- what the tiles are worth decides the order -/
theorem rel_sa {v : SV} {y : Int32} {x : LV} {T n : Nat} {w : Nat → Int32} {o : Nat → Int32} (hr : Rel v y x) (hi : Inv v T) (hs : srt w (unl v) o n 48) (hw : ∀ i, i < 48 → ¬ v.since i = -1 → w i = woI v i) (c : Int32) : (saR v c).1 = c - (sndL x o c n).1 ∧ Rel (saR v c).2 y (sndL x o c n).2 ∧ Inv (saR v c).2 T := by
  obtain ⟨s1, -, s3⟩ := piF_so v 48 (Nat.le_refl _)
  have s2 : srt w (unl v) (piF v 48).2.2 (piF v 48).1 48 := srt_cong2 (Nat.le_refl _) (fun i i1 i2 => (s3 i i1 i2).trans (hw i i1 i2).symm) s1
  have en : n = (piF v 48).1 := srt_num (Nat.le_refl _) hs s2
  have eo : ∀ p, p < n → (piV v 48).order p = o p := fun p hp => ((srt_same (Nat.le_refl _) hs s2 p hp).2).symm
  have hr' : Rel (piV v 48) y x := hr
  have hi' : Inv (piV v 48) T := hi
  obtain ⟨k1, k2, k3, -, -⟩ := rel_snd (v := piV v 48) (w := w) hr' hi' hs eo c n (Nat.le_refl _)
  have e : saR v c = (c - (saF (piV v 48) c (piF v 48).1).1, (saF (piV v 48) c (piF v 48).1).2) := rfl
  rw [e, ← en]
  exact ⟨by rw [k1], k2, k3⟩
/-- the end of a step -/
def fnL (x : LV) : LV := (x.ggS (upd x.gg 0 (x.gg 0 + 1))).hS (fz_to (fun t => (x.h t - x.h t / 128 * 128) * 2) x.h 48)
theorem sh_two : ∀ k : Fin 256, (nI k.val - nI k.val / 128 * 128) * 2 = (nI k.val) <<< ((1 : Int32) &&& 31) &&& 255 := by decide +kernel
theorem rel_fin {v : SV} {y : Int32} {x : LV} {T : Nat} (hr : Rel v y x) (hi : Inv v T) (hT : T + 1 < 2 ^ 20) (c : Int32) : Rel (scV (unV v c)) y (fnL x) ∧ Inv (scV (unV v c)) (T + 1) := by
  obtain ⟨r1, r2, r3, r4, r5, r6, r7, r8, r9, r10, r11, r12⟩ := hr
  obtain ⟨⟨q1, q2, q3, q4, q5, q6, q7, q8, ⟨N, n1, n2, n3⟩, -⟩, hu⟩ := hi
  have eg : ∀ j, ¬ j = 0 → (fnL x).gg j = x.gg j := fun j hj => pk_un hj
  have ec : ∀ t, t < 48 → (scV (unV v c)).ch t = v.ch t <<< ((1 : Int32) &&& 31) &&& 255 := fun t ht => fz_to_lt (f := fun t => v.ch t <<< ((1 : Int32) &&& 31) &&& 255) (h := v.ch) ht
  refine ⟨⟨r1, r2, r3, fun t ht => ?_, r5, r6, r7, ?_, (eg 1 (by omega)).trans r9, (eg 2 (by omega)).trans r10, (eg 3 (by omega)).trans r11, fun k hk => (eg (4 + k) (by omega)).trans (r12 k hk)⟩, ⟨q1, q2, q3, q4, q5, q6, fun t ht => ?_, q8, ⟨N + 1, by omega, ?_, fun t ht => ?_⟩, hT⟩, hu⟩
  · obtain ⟨k, hk, e⟩ := q7 t ht
    rw [ec t ht]
    show fz_to (fun t => (x.h t - x.h t / 128 * 128) * 2) x.h 48 t = _
    rw [fz_to_lt ht, r4 t ht, e]
    exact sh_two ⟨k, hk⟩
  · show upd x.gg 0 (x.gg 0 + 1) 0 = v.now + 1
    rw [pk_us, r8]
  · obtain ⟨k, hk, e⟩ := q7 t ht
    rw [ec t ht, e]
    exact ⟨2 * k % 256, Nat.mod_lt _ (by omega), sh_all ⟨k, hk⟩⟩
  · show v.now + 1 = _
    rw [n2]; exact nI_1 N
  · rcases n3 t ht with z | ⟨k, k1, k2⟩
    · exact Or.inl z
    · exact Or.inr ⟨k, by omega, k2⟩
/-- a step's tiles: how much is told, and what stands then -/
theorem ps_0 {v : SV} {b : Int32} (h : ¬ (tlR v b).2.wm = 0) : psA v b = tlR v b := if_neg h
theorem ps_1 {v : SV} {b : Int32} (h : (tlR v b).2.wm = 0) : psA v b = ((tlR v b).1 + (saR (tlR v b).2 (b - (tlR v b).1)).1, (saR (tlR v b).2 (b - (tlR v b).1)).2) := if_pos h
/-- two states of one picture: a step does the same to both -/
theorem two_step {v w : SV} {y : Int32} {x : LV} {T : Nat} (hv : Rel v y x) (hw : Rel w y x) (iv : Inv v T) (iw : Inv w T) (hT : T + 1 < 2 ^ 20) (b : Int32) : (psA v b).1 = (psA w b).1 ∧ ∃ x1, Rel (psV v b) y x1 ∧ Rel (psV w b) y x1 ∧ Inv (psV v b) (T + 1) ∧ Inv (psV w b) (T + 1) := by
  have ewm : v.wm = w.wm := by
    have a := hv.2.2.2.2.2.2.2.2.2.1
    have c := hw.2.2.2.2.2.2.2.2.2.1
    rw [a] at c
    have l1 := iv.1.1
    have l2 := iw.1.1
    exact (nI_eq (by omega) (by omega)).mp c
  obtain ⟨a1, a2, a3⟩ := rel_tell b v.wm v x 0 (by omega) (rel_fg hv) (inv_fg iv)
  obtain ⟨c1, c2, c3⟩ := rel_tell b w.wm w x 0 (by omega) (rel_fg hw) (inv_fg iw)
  rw [← ewm] at c1 c2 c3
  have e1 : (tlF b v 0 v.wm).1 = (tlF b w 0 v.wm).1 := a1.trans c1.symm
  have t1 : (tlR v b).1 = (tlR w b).1 := by
    show nI (tlF b v 0 v.wm).1 * 2 = nI (tlF b w 0 w.wm).1 * 2
    rw [← ewm, e1]
  have V2 : Rel (tlR v b).2 y (tlL b x 0 v.wm).2 := a2
  have V3 : Inv (tlR v b).2 T := a3
  have W2 : Rel (tlR w b).2 y (tlL b x 0 v.wm).2 := by
    have e : (tlR w b).2 = fgV (tlF b w 0 w.wm).2 (tlF b w 0 w.wm).1 := rfl
    rw [e, ← ewm]; exact c2
  have W3 : Inv (tlR w b).2 T := by
    have e : (tlR w b).2 = fgV (tlF b w 0 w.wm).2 (tlF b w 0 w.wm).1 := rfl
    rw [e, ← ewm]; exact c3
  have em : (tlR v b).2.wm = (tlR w b).2.wm := by
    have a := V2.2.2.2.2.2.2.2.2.2.1
    have c := W2.2.2.2.2.2.2.2.2.2.1
    rw [a] at c
    have l1 := V3.1.1
    have l2 := W3.1.1
    exact (nI_eq (by omega) (by omega)).mp c
  have key : (psA v b).1 = (psA w b).1 ∧ ∃ x1, Rel (psA v b).2 y x1 ∧ Rel (psA w b).2 y x1 ∧ Inv (psA v b).2 T ∧ Inv (psA w b).2 T := by
    by_cases z : (tlR v b).2.wm = 0
    · have z2 : (tlR w b).2.wm = 0 := em.symm.trans z
      rw [ps_1 z, ps_1 z2, ← t1]
      generalize (tlR v b).2 = v1 at V2 V3 z
      generalize (tlR w b).2 = w1 at W2 W3 z2
      generalize b - (tlR v b).1 = c
      generalize (tlL b x 0 v.wm).2 = x2 at V2 W2
      obtain ⟨s1, -, s3⟩ := piF_so v1 48 (Nat.le_refl _)
      obtain ⟨p1, p2, p3⟩ := rel_sa V2 V3 s1 s3 c
      have es : ∀ i, i < 48 → v1.since i = w1.since i := fun i h => (V2.2.2.1 i h).symm.trans (W2.2.2.1 i h)
      have eu : srt (piF v1 48).2.1 (unl w1) (piF v1 48).2.2 (piF v1 48).1 48 := by
        obtain ⟨u1, u2, u3⟩ := s1
        refine ⟨fun p hp => ?_, fun i i1 i2 => ?_, u3⟩
        · obtain ⟨i, i1, i2, i3⟩ := u1 p hp
          refine ⟨i, i1, i2, ?_⟩
          show ¬ w1.since i = -1
          rw [← es i i1]; exact i3
        · refine u2 i i1 ?_
          show ¬ v1.since i = -1
          rw [es i i1]; exact i2
      have ew : ∀ i, i < 48 → ¬ w1.since i = -1 → (piF v1 48).2.1 i = woI w1 i := fun i i1 i2 => by
        rw [s3 i i1 (by rw [es i i1]; exact i2)]
        have en : v1.now = w1.now := V2.2.2.2.2.2.2.2.1.symm.trans W2.2.2.2.2.2.2.2.1
        have el : v1.la = w1.la := by
          have a := V2.2.2.2.2.2.2.2.2.1
          have c := W2.2.2.2.2.2.2.2.2.1
          rw [a] at c
          have l1 := V3.1.2.2.2.1
          have l2 := W3.1.2.2.2.1
          exact (nI_eq (by omega) (by omega)).mp c
        unfold woI
        rw [en, el, es i i1]
      obtain ⟨o1, o2, o3⟩ := rel_sa W2 W3 eu ew c
      exact ⟨by rw [p1, o1], _, p2, o2, p3, o3⟩
    · have z2 : ¬ (tlR w b).2.wm = 0 := fun h => z (em.trans h)
      rw [ps_0 z, ps_0 z2]
      exact ⟨t1, _, V2, W2, V3, W3⟩
  obtain ⟨k1, x1, k2, k3, k4, k5⟩ := key
  obtain ⟨f1, f2⟩ := rel_fin k2 k4 hT (psA v b).1
  obtain ⟨g1, g2⟩ := rel_fin k3 k5 hT (psA w b).1
  exact ⟨k1, _, f1, g1, f2, g2⟩
end
section
/-! the steps that are told lead to screens that are alike -/
def Stk (w : SV) (c : Nat) : Prop := (0 < w.wm ∧ c < 2) ∨ (w.wm = 0 ∧ (∃ t, t < 48 ∧ ¬ w.since t = -1) ∧ ∀ t, t < 48 → ¬ w.since t = -1 → (stR w t (nI c)).1 = 0 ∧ ¬ kdI w t = 2)
theorem ps_none {w : SV} {c : Nat} (hc : c < 2 ^ 31) (h0 : w.wm = 0) : psA w (nI c) = saR (fgV w 0) (nI c) := by
  have e : tlF (nI c) w 0 w.wm = (0, w) := by
    rw [h0]
    rfl
  have er : tlR w (nI c) = (0, fgV w 0) := by
    unfold tlR tlV
    rw [e]
    show (nI 0 * 2, fgV w 0) = _
    rw [i_z2]
  unfold psA
  rw [er, if_pos (show (fgV w 0).wm = 0 by show w.wm - 0 = 0; omega)]
  show (0 + (saR (fgV w 0) (nI c - 0)).1, (saR (fgV w 0) (nI c - 0)).2) = _
  rw [Int32.sub_zero, Int32.zero_add]
theorem piV_cost (w : SV) (t : Nat) (x : Int32) : (stR (piV (fgV w 0) 48) t x).1 = (stR w t x).1 := by
  rw [stR_cost, stR_cost]
  rfl
theorem stk_from {w : SV} {c : Nat} (hc : c ≤ 300) (hw : w.wm ≤ 4) (h1 : alI w = 0) (h2 : (psA w (nI c)).1 = 0) (h3 : hfF w 0 48 = 0) : Stk w c := by
  rw [alI_0] at h1
  by_cases z : w.wm = 0
  · refine Or.inr ⟨z, usF_ex w (fun y => h1 ⟨z, y⟩), fun t t1 t2 => ⟨?_, hfF_0 w 48 0 h3 t (Nat.zero_le _) (by omega)⟩⟩
    rw [ps_none (by omega) z] at h2
    obtain ⟨⟨s1, s2, s3⟩, -, -⟩ := piF_so (fgV w 0) 48 (Nat.le_refl _)
    obtain ⟨p, p1, p2⟩ := s2 t t1 t2
    obtain ⟨k, k1, k2, k3⟩ := saF_d (piV (fgV w 0) 48) (c := c) (by omega) (piF (fgV w 0) 48).1
    have e : (saR (fgV w 0) (nI c)).1 = nI (c - k) := by
      show nI c - (saF (piV (fgV w 0) 48) (nI c) (piF (fgV w 0) 48).1).1 = _
      rw [k2]
      exact pk_sub k1
    rw [e] at h2
    have ek : c - k = 0 := (nI_eq (b := 0) (by omega) (by omega)).mp h2
    have g := (k3 (by omega)).2 p p1
    have ec : ((piV (fgV w 0) 48).order p).toNatClampNeg = t := by
      show ((piF (fgV w 0) 48).2.2 p).toNatClampNeg = t
      rw [p2]
      exact nI_clamp (by omega)
    rw [ec, piV_cost] at g
    exact g
  · refine Or.inl ⟨by omega, ?_⟩
    refine Nat.not_le.mp (fun y => ?_)
    have hx : ¬ nI c < 2 := fun q => absurd ((nI_ltI (a := c) (b := 2) (by omega) (by omega)).mp q) (by omega)
    obtain ⟨k, hk⟩ : ∃ k, w.wm = k + 1 := ⟨w.wm - 1, by omega⟩
    have e1 : tlF (nI c) w 0 w.wm = tlF (nI c) (nuV (afV w 0)) 1 k := by
      rw [hk]
      show (if nI c - nI 0 * 2 < 2 then (0, w) else tlF (nI c) (nuV (afV w 0)) (0 + 1) k) = _
      rw [i_00, if_neg hx]
    obtain ⟨-, -, -, b1, b2⟩ := tlF_keep (nI c) k (nuV (afV w 0)) 1
    rw [← e1] at b1 b2
    -- told n moves, 1 ≤ n ≤ 4, and the rest of the budget
    have hn2 : (tlF (nI c) w 0 w.wm).1 * 2 ≤ c := by
      have A : ∀ (k : Nat) (v : SV) (told : Nat), told + k ≤ 4 → told * 2 ≤ c → (tlF (nI c) v told k).1 * 2 ≤ c := by
        intro k
        induction k with
        | zero => intro v told _ h; exact h
        | succ k ih =>
          intro v told ht h
          show (if nI c - nI told * 2 < 2 then (told, v) else tlF (nI c) (nuV (afV v told)) (told + 1) k).1 * 2 ≤ c
          have em : nI told * 2 = nI (told * 2) := pk_mul told 2
          have es : nI c - nI (told * 2) = nI (c - told * 2) := pk_sub h
          rw [em, es]
          by_cases q : nI (c - told * 2) < 2
          · rw [if_pos q]; exact h
          · rw [if_neg q]
            have : ¬ c - told * 2 < 2 := fun r => q ((nI_ltI (a := c - told * 2) (b := 2) (by omega) (by omega)).mpr r)
            exact ih _ _ (by omega) (by omega)
      exact A w.wm w 0 (by omega) (by omega)
    generalize htn : (tlF (nI c) w 0 w.wm).1 = n at b1 b2 hn2
    have er : (tlR w (nI c)).1 = nI (n * 2) := by
      show nI (tlF (nI c) w 0 w.wm).1 * 2 = _
      rw [htn]
      exact pk_mul n 2
    have es : nI c - nI (n * 2) = nI (c - n * 2) := pk_sub hn2
    by_cases q : (tlR w (nI c)).2.wm = 0
    · have ep : (psA w (nI c)).1 = nI (n * 2) + (saR (tlR w (nI c)).2 (nI (c - n * 2))).1 := by
        unfold psA
        rw [if_pos q, er, es]
      obtain ⟨j, j1, j2, -⟩ := saF_d (piV (tlR w (nI c)).2 48) (c := c - n * 2) (by omega) (piF (tlR w (nI c)).2 48).1
      have e : (saR (tlR w (nI c)).2 (nI (c - n * 2))).1 = nI (c - n * 2 - j) := by
        show nI (c - n * 2) - (saF (piV (tlR w (nI c)).2 48) (nI (c - n * 2)) (piF (tlR w (nI c)).2 48).1).1 = _
        rw [j2]
        exact pk_sub j1
      rw [ep, e, nI_add] at h2
      have := (nI_eq (b := 0) (by omega) (by omega)).mp h2
      omega
    · have ep : (psA w (nI c)).1 = nI (n * 2) := by
        unfold psA
        rw [if_neg q, er]
      rw [ep] at h2
      have := (nI_eq (b := 0) (by omega) (by omega)).mp h2
      omega
theorem rel_wm {v w : SV} {y : Int32} {x : LV} {T : Nat} (hv : Rel v y x) (hw : Rel w y x) (iv : Inw v T) (iw : Inw w T) : v.wm = w.wm := by
  have a := hv.2.2.2.2.2.2.2.2.2.1
  have c := hw.2.2.2.2.2.2.2.2.2.1
  rw [a] at c
  have l1 := iv.1
  have l2 := iw.1
  exact (nI_eq (by omega) (by omega)).mp c
theorem al_two {v w : SV} {y : Int32} {x : LV} {T : Nat} (hv : Rel v y x) (hw : Rel w y x) (iv : Inw v T) (iw : Inw w T) : alI v = alI w := by
  unfold alI
  rw [rel_wm hv hw iv iw, us_mu, us_mu, muL_cong 48 (fun t ht => (hv.2.2.1 t ht).symm.trans (hw.2.2.1 t ht))]
theorem hf_cong {v w : SV} : ∀ k i, (∀ t, i ≤ t → t < i + k → kdI v t = kdI w t) → hfF v i k = hfF w i k := by
  intro k
  induction k with
  | zero => intro i _; rfl
  | succ k ih =>
    intro i h
    show (if kdI v i = 2 then 1 else hfF v (i + 1) k) = (if kdI w i = 2 then 1 else hfF w (i + 1) k)
    rw [h i (Nat.le_refl _) (by omega), ih (i + 1) (fun t t1 t2 => h t (by omega) (by omega))]
theorem hf_two {v w : SV} {y : Int32} {x : LV} (hv : Rel v y x) (hw : Rel w y x) : hfF v 0 48 = hfF w 0 48 :=
  hf_cong 48 0 (fun t _ ht => (kd_is hv (by omega)).symm.trans (kd_is hw (by omega)))
theorem rel_co {v : SV} {y : Int32} {x : LV} {T : Nat} (u : SV) (hr : Rel v y x) (hi : Inv v T) : Rel (coV u v) y x ∧ Inv (coV u v) T := by
  obtain ⟨r1, r2, r3, r4, r5, r6, r7, r8, r9, r10, r11, r12⟩ := hr
  obtain ⟨⟨q1, q2, q3, q4, q5, q6, q7, q8, ⟨N, n1, n2, n3⟩, hT⟩, hu⟩ := hi
  have c1 : ∀ t, t < 48 → (coV u v).near t = v.near t := fun t ht => fz_to_lt (f := v.near) (h := u.near) ht
  have c2 : ∀ t, t < 48 → (coV u v).far t = v.far t := fun t ht => fz_to_lt (f := v.far) (h := u.far) ht
  have c3 : ∀ t, t < 48 → (coV u v).since t = v.since t := fun t ht => fz_to_lt (f := v.since) (h := u.since) ht
  have c4 : ∀ t, t < 48 → (coV u v).ch t = v.ch t := fun t ht => fz_to_lt (f := v.ch) (h := u.ch) ht
  have c5 : ∀ j, j < v.wm → (coV u v).mv j = v.mv j := fun j hj => if_pos hj
  have c6 : ∀ j, j < v.kc → (coV u v).kp j = v.kp j := fun j hj => fz_to_lt (f := v.kp) (h := u.kp) (by omega)
  have c7 : ∀ j, j < 4 → (coV u v).sc j = v.sc j := fun j hj => fz_to_lt (f := v.sc) (h := u.sc) hj
  refine ⟨⟨fun t ht => (r1 t ht).trans (c1 t ht).symm, fun t ht => (r2 t ht).trans (c2 t ht).symm, fun t ht => (r3 t ht).trans (c3 t ht).symm, fun t ht => (r4 t ht).trans (c4 t ht).symm, fun j i hj hi => ?_, fun k hk => ?_, r7, r8, r9, r10, r11, fun k hk => (r12 k hk).trans (c7 k hk).symm⟩, ⟨q1, q2, fun j hj => ?_, q4, fun t ht => ?_, fun t ht => ?_, fun t ht => ?_, fun k hk => ?_, ⟨N, n1, n2, fun t ht => ?_⟩, hT⟩, fun t ht => ?_⟩
  · have hj : j < v.wm := hj
    rw [c5 j hj]; exact r5 j i hj hi
  · have hk : k < v.kc := hk
    rw [c6 k hk]; exact r6 k hk
  · have hj : j < v.wm := hj
    rw [c5 j hj]; exact q3 j hj
  · rw [c1 t ht]; exact q5 t ht
  · rw [c2 t ht]; exact q6 t ht
  · rw [c4 t ht]; exact q7 t ht
  · have hk : k < v.kc := hk
    rw [c6 k hk]; exact q8 k hk
  · rw [c3 t ht]; exact n3 t ht
  · rw [c1 t ht, c2 t ht, c3 t ht]; exact hu t ht
theorem stg_s (b : Int32) (u : SV) (n k : Nat) : stgF b u n (k + 1) = if alI u = 0 then (if (psA u b).1 = 0 ∧ hfF u 0 48 = 0 then (-1, psV u b) else stgF b (psV u b) (n + 1) k) else (nI n, u) := rfl
theorem stg_two (b : Int32) {y : Int32} : ∀ (k n T : Nat) (v w : SV) (x : LV), Rel v y x → Rel w y x → Inv v T → Inv w T → T + k + 1 < 2 ^ 20 → (stgF b v n k).1 = (stgF b w n k).1 := by
  intro k
  induction k with
  | zero =>
    intro n T v w x hv hw iv iw _
    show (if alI v = 0 then (-1 : Int32) else nI n) = (if alI w = 0 then -1 else nI n)
    rw [al_two hv hw iv.1 iw.1]
  | succ k ih =>
    intro n T v w x hv hw iv iw hT
    obtain ⟨p1, x1, p2, p3, p4, p5⟩ := two_step hv hw iv iw (by omega) b
    rw [stg_s, stg_s, al_two hv hw iv.1 iw.1, p1, hf_two hv hw]
    by_cases a : alI w = 0
    · rw [if_pos a, if_pos a]
      by_cases c : (psA w b).1 = 0 ∧ hfF w 0 48 = 0
      · rw [if_pos c, if_pos c]
      · rw [if_neg c, if_neg c]
        exact ih (n + 1) (T + 1) _ _ x1 p2 p3 p4 p5 (by omega)
    · rw [if_neg a, if_neg a]
/-- with 300 all is sent, films aside -/
theorem tl_300 : ∀ (k : Nat) (v : SV) (told : Nat), told + k ≤ 4 → (tlF 300 v told k).1 = told + k := by
  intro k
  induction k with
  | zero => intro v told _; rfl
  | succ k ih =>
    intro v told h
    show (if (300 : Int32) - nI told * 2 < 2 then (told, v) else tlF 300 (nuV (afV v told)) (told + 1) k).1 = _
    have e : (300 : Int32) - nI told * 2 = nI (300 - told * 2) := by
      have : nI told * 2 = nI (told * 2) := pk_mul told 2
      rw [this]
      exact pk_sub (a := 300) (by omega)
    have e2 : ¬ nI (300 - told * 2) < 2 := fun z => absurd ((nI_ltI (a := 300 - told * 2) (b := 2) (by omega) (by omega)).mp z) (by omega)
    rw [e, if_neg e2, ih _ _ (by omega)]
    omega
theorem stR_chn (v : SV) (t : Nat) (c : Int32) : (stR v t c).2.near = v.near ∧ (stR v t c).2.ch = v.ch := by
  have sp : ∀ w k, (spR v t w k c).2.near = v.near ∧ (spR v t w k c).2.ch = v.ch := by
    intro w k
    unfold spR
    split <;> exact ⟨rfl, rfl⟩
  have sr : (srR v t c).2.near = v.near ∧ (srR v t c).2.ch = v.ch := by
    unfold srR
    split
    · exact ⟨rfl, rfl⟩
    · split <;> exact ⟨rfl, rfl⟩
  unfold stR
  split
  · split
    · exact sr
    · exact sp _ _
  · exact sp _ _
theorem sp_sent (v : SV) (t w d k : Nat) (hd : d ≤ 6) (hk : 6 ≤ k) (hk2 : k < 2 ^ 31) : (spR v t w (nI d) (nI k)).1 = nI d ∧ (spR v t w (nI d) (nI k)).2.since t = -1 := by
  unfold spR
  rw [if_neg (fun z => absurd ((nI_ltI (a := k) (b := d) hk2 (by omega)).mp z) (by omega))]
  exact ⟨rfl, pk_us⟩
theorem st_sent (v : SV) (t k : Nat) (hk : 6 ≤ k) (hk2 : k < 2 ^ 31) (hf : ¬ kdI v t = 2) : ∃ d, d ≤ 6 ∧ (stR v t (nI k)).1 = nI d ∧ (stR v t (nI k)).2.since t = -1 := by
  unfold stR
  by_cases a : plcF v.kp (v.near t) 0 v.kc = -1
  · rw [if_pos a, if_neg hf]
    unfold wcI
    by_cases z : v.near t < 64
    · rw [if_pos z]; exact ⟨2, by omega, sp_sent v t 3 2 k (by omega) hk hk2⟩
    · rw [if_neg z]; exact ⟨6, by omega, sp_sent v t 3 6 k (by omega) hk hk2⟩
  · rw [if_neg a]; exact ⟨1, by omega, sp_sent v t 1 1 k (by omega) hk hk2⟩
theorem sa_sent {v : SV} {n c : Nat} {w : Nat → Int32} {o : Nat → Int32} (hs : srt w (unl v) o n 48) (ho : ∀ p, p < n → v.order p = o p) (hf : ∀ t, t < 48 → ¬ kdI v t = 2) (hn : n ≤ 48) (hc : 6 * n ≤ c) (hc2 : c < 2 ^ 31) : ∀ p, p ≤ n → (∃ k, k ≤ c ∧ c ≤ k + 6 * p ∧ (saF v (nI c) p).1 = nI k) ∧ (saF v (nI c) p).2.near = v.near ∧ (saF v (nI c) p).2.ch = v.ch ∧ (saF v (nI c) p).2.order = v.order ∧ (∀ q, q < p → ∀ i, i < 48 → o q = nI i → (saF v (nI c) p).2.since i = -1) ∧ ∀ i, i < 48 → v.since i = -1 → (saF v (nI c) p).2.since i = -1 := by
  intro p
  induction p with
  | zero => intro _; exact ⟨⟨c, by omega, by omega, rfl⟩, rfl, rfl, rfl, fun q hq => absurd hq (Nat.not_lt_zero _), fun i _ h => h⟩
  | succ p ih =>
    intro hp
    obtain ⟨⟨k, g1, g2, g3⟩, h2, h3, h4, h5, h6⟩ := ih (by omega)
    obtain ⟨i, i1, i2, i3⟩ := hs.1 p (by omega)
    have e1 : saF v (nI c) (p + 1) = ((saF v (nI c) p).1 - (stR (saF v (nI c) p).2 ((saF v (nI c) p).2.order p).toNatClampNeg (saF v (nI c) p).1).1, (stR (saF v (nI c) p).2 ((saF v (nI c) p).2.order p).toNatClampNeg (saF v (nI c) p).1).2) := rfl
    have ei : (o p).toNatClampNeg = i := by rw [i2]; exact nI_clamp (by omega)
    rw [e1, h4, ho p (by omega), ei, g3]
    have hfk : ¬ kdI (saF v (nI c) p).2 i = 2 := by
      unfold kdI
      rw [h2, h3]
      exact hf i i1
    obtain ⟨d, d1, d2, d3⟩ := st_sent (saF v (nI c) p).2 i k (by omega) (by omega) hfk
    obtain ⟨n1, n2⟩ := stR_chn (saF v (nI c) p).2 i (nI k)
    refine ⟨⟨k - d, by omega, by omega, ?_⟩, n1.trans h2, n2.trans h3, (stR_ord _ _ _).1.trans h4, fun q hq j hj ej => ?_, fun j hj hj2 => ?_⟩
    · show nI k - _ = _
      rw [d2]
      exact pk_sub (by omega)
    · by_cases z : j = i
      · rw [z]; exact d3
      · rw [stR_since _ _ _ z]
        refine h5 q ?_ j hj ej
        rcases (show q < p ∨ q = p by omega) with y | y
        · exact y
        · rw [y, i2] at ej
          exact absurd ((nI_eq (by omega) (by omega)).mp ej).symm z
    · by_cases z : j = i
      · rw [z]; exact d3
      · rw [stR_since _ _ _ z]
        exact h6 j hj hj2
theorem all_sent {v : SV} {y : Int32} {x : LV} {T : Nat} (hr : Rel v y x) (hi : Inv v T) (hf : ∀ t, t < 48 → ¬ kdI v t = 2) : ¬ alI (psV v 300) = 0 := by
  have hw : v.wm ≤ 4 := hi.1.1
  have e0 : (tlF 300 v 0 v.wm).1 = v.wm := by
    have := tl_300 v.wm v 0 (by omega)
    omega
  have et : (tlR v 300).1 = nI (v.wm * 2) := by
    show nI (tlF 300 v 0 v.wm).1 * 2 = _
    rw [e0]
    exact pk_mul v.wm 2
  obtain ⟨-, -, t3⟩ := rel_tell 300 v.wm v x 0 (by omega) (rel_fg hr) (inv_fg hi)
  have t3 : Inv (tlR v 300).2 T := t3
  obtain ⟨-, k2, -, -, -⟩ := tlF_keep 300 v.wm v 0
  have z : (tlR v 300).2.wm = 0 := by
    show (tlF 300 v 0 v.wm).2.wm - (tlF 300 v 0 v.wm).1 = 0
    rw [k2, e0]
    exact Nat.sub_self _
  have ec : (300 : Int32) - (tlR v 300).1 = nI (300 - v.wm * 2) := by
    rw [et]
    exact pk_sub (a := 300) (by omega)
  -- kinds are as before
  have tk : ∀ (k : Nat) (u : SV) (told : Nat), (tlF 300 u told k).2.near = u.near ∧ (tlF 300 u told k).2.ch = u.ch := by
    intro k
    induction k with
    | zero => intro u told; exact ⟨rfl, rfl⟩
    | succ k ih =>
      intro u told
      show (if (300 : Int32) - nI told * 2 < 2 then (told, u) else tlF 300 (nuV (afV u told)) (told + 1) k).2.near = _ ∧ (if (300 : Int32) - nI told * 2 < 2 then (told, u) else tlF 300 (nuV (afV u told)) (told + 1) k).2.ch = _
      split
      · exact ⟨rfl, rfl⟩
      · exact ih (nuV (afV u told)) (told + 1)
  obtain ⟨tk1, tk2⟩ := tk v.wm v 0
  have hf1 : ∀ t, t < 48 → ¬ kdI (piV (tlR v 300).2 48) t = 2 := fun t ht h => by
    refine hf t ht ?_
    have e : kdI (piV (tlR v 300).2 48) t = if bcI ((tlF 300 v 0 v.wm).2.ch t) < 4 then (if (tlF 300 v 0 v.wm).2.near t < 64 then 0 else 1) else 2 := rfl
    rw [e, tk1, tk2] at h
    exact h
  obtain ⟨s1, s2, s3⟩ := piF_so (tlR v 300).2 48 (Nat.le_refl _)
  obtain ⟨-, -, -, -, g5, g6⟩ := sa_sent (v := piV (tlR v 300).2 48) (c := 300 - v.wm * 2) s1 (fun p _ => rfl) hf1 s2 (by omega) (by omega) (piF (tlR v 300).2 48).1 (Nat.le_refl _)
  rw [alI_0]
  refine fun h => h ⟨?_, ?_⟩
  · show (psA v 300).2.wm = 0
    rw [ps_1 z]
    show (saF (piV (tlR v 300).2 48) (300 - (tlR v 300).1) (piF (tlR v 300).2 48).1).2.wm = 0
    rw [(saF_mv _ _ _).1]
    exact z
  · rw [us_mu]
    refine muL_0 _ 48 (fun i i1 => ?_)
    show (psA v 300).2.since i = -1
    rw [ps_1 z, ec]
    show (saF (piV (tlR v 300).2 48) (nI (300 - v.wm * 2)) (piF (tlR v 300).2 48).1).2.since i = -1
    by_cases c : (tlR v 300).2.since i = -1
    · exact g6 i i1 c
    · obtain ⟨p, p1, p2⟩ := s1.2.1 i i1 c
      exact g5 p p1 i i1 p2
/-- films fade -/
def Fdd (v : SV) (d : Nat) : Prop := ∀ t, t < 48 → ∃ c, c < 256 ∧ v.ch t = nI c ∧ popB 8 (c * 2 ^ d % 256) < 4
theorem fd_5 : ∀ c : Fin 256, popB 8 (c.val * 2 ^ 5 % 256) < 4 := by decide +kernel
theorem fd_of {v : SV} {T : Nat} (hi : Inw v T) : Fdd v 5 := by
  intro t ht
  obtain ⟨k, hk, e⟩ := hi.2.2.2.2.2.2.1 t ht
  exact ⟨k, hk, e, fd_5 ⟨k, hk⟩⟩
theorem fd_kd {v : SV} {d : Nat} (h : Fdd v d) (hd : d = 0) : ∀ t, t < 48 → ¬ kdI v t = 2 := by
  intro t ht z
  obtain ⟨c, c1, c2, c3⟩ := h t ht
  have z := kd_2.mp z
  rw [c2] at z
  have e : bcI (nI c) = nI (popB 8 c) := pop_bc ⟨c, c1⟩
  rw [hd, Nat.pow_zero, Nat.mul_one, Nat.mod_eq_of_lt c1] at c3
  rw [e] at z
  exact z ((nI_ltI (a := popB 8 c) (b := 4) (by omega) (by omega)).mpr c3)
theorem ps_ch {v : SV} {y : Int32} {x : LV} {T : Nat} (hr : Rel v y x) (hi : Inv v T) (b : Int32) : ∀ t, t < 48 → (psV v b).ch t = v.ch t <<< ((1 : Int32) &&& 31) &&& 255 := by
  intro t ht
  have e : (psV v b).ch t = (psA v b).2.ch t <<< ((1 : Int32) &&& 31) &&& 255 := fz_to_lt (f := fun t => (psA v b).2.ch t <<< ((1 : Int32) &&& 31) &&& 255) (h := (psA v b).2.ch) ht
  have tk : ∀ (k : Nat) (u : SV) (told : Nat), (tlF b u told k).2.ch = u.ch := by
    intro k
    induction k with
    | zero => intro u told; rfl
    | succ k ih =>
      intro u told
      show (if b - nI told * 2 < 2 then (told, u) else tlF b (nuV (afV u told)) (told + 1) k).2.ch = _
      split
      · rfl
      · exact ih (nuV (afV u told)) (told + 1)
  have sk : ∀ (u : SV) (c : Int32) (p : Nat), (saF u c p).2.ch = u.ch := by
    intro u c p
    induction p with
    | zero => rfl
    | succ p ih => exact (stR_chn _ _ _).2.trans ih
  have ek : (psA v b).2.ch = v.ch := by
    have tl : (tlR v b).2.ch = v.ch := tk v.wm v 0
    by_cases z : (tlR v b).2.wm = 0
    · rw [ps_1 z]
      show (saF (piV (tlR v b).2 48) _ _).2.ch = _
      rw [sk]
      exact tl
    · rw [ps_0 z]; exact tl
  rw [e, ek]
theorem fd_next {v : SV} {y : Int32} {x : LV} {T d : Nat} (hr : Rel v y x) (hi : Inv v T) (h : Fdd v (d + 1)) (b : Int32) : Fdd (psV v b) d := by
  intro t ht
  obtain ⟨c, c1, c2, c3⟩ := h t ht
  refine ⟨2 * c % 256, Nat.mod_lt _ (by omega), ?_, ?_⟩
  · rw [ps_ch hr hi b t ht, c2]
    exact sh_all ⟨c, c1⟩
  · have e : 2 * c % 256 * 2 ^ d % 256 = c * 2 ^ (d + 1) % 256 := by
      rw [Nat.mod_mul_mod, Nat.pow_succ, Nat.mul_comm 2 c, Nat.mul_assoc, Nat.mul_comm 2 (2 ^ d)]
    rw [e]; exact c3
def itV (v : SV) : Nat → SV
  | 0 => v
  | k + 1 => itV (psV v 300) k
theorem rel_ps {v : SV} {y : Int32} {x : LV} {T : Nat} (hr : Rel v y x) (hi : Inv v T) (hT : T + 1 < 2 ^ 20) (b : Int32) : ∃ x1, Rel (psV v b) y x1 ∧ Inv (psV v b) (T + 1) := by
  obtain ⟨-, x1, p2, -, p4, -⟩ := two_step hr hr hi hi hT b
  exact ⟨x1, p2, p4⟩
theorem hf_of {v : SV} : hfF v 0 48 = 0 → ∀ t, t < 48 → ¬ kdI v t = 2 := fun h t ht => hfF_0 v 48 0 h t (Nat.zero_le _) (by omega)
theorem spends {v : SV} {T : Nat} (hi : Inv v T) (h1 : alI v = 0) (h3 : hfF v 0 48 = 0) : ¬ (psA v 300).1 = 0 := by
  intro h2
  have k := stk_from (c := 300) (Nat.le_refl _) hi.1.1 h1 h2 h3
  rcases k with ⟨-, k⟩ | ⟨k1, ⟨t, t1, t2⟩, k3⟩
  · exact absurd k (by decide)
  · obtain ⟨g1, g2⟩ := k3 t t1 t2
    obtain ⟨d, d1, d2, -⟩ := st_sent v t 300 (by decide) (by decide) g2
    have c := stR_cost v t (nI 300)
    rw [g1, if_neg g2] at c
    by_cases a : plcF v.kp (v.near t) 0 v.kc = -1
    · rw [if_pos a] at c
      unfold wcI at c
      by_cases z : v.near t < 64
      · rw [if_pos z] at c; exact absurd c (by decide)
      · rw [if_neg z] at c; exact absurd c (by decide)
    · rw [if_neg a] at c; exact absurd c (by decide)
theorem stg_go {y : Int32} : ∀ (d k n T : Nat) (v : SV) (x : LV), Rel v y x → Inv v T → Fdd v d → d + 2 ≤ k → T + d + 2 < 2 ^ 20 → ∃ j, j ≤ d + 1 ∧ (stgF 300 v n k).1 = nI (n + j) ∧ (∀ i, i < j → alI (itV v i) = 0) ∧ ¬ alI (itV v j) = 0 := by
  intro d
  induction d with
  | zero =>
    intro k n T v x hr hi hF hk hT
    obtain ⟨k1, rfl⟩ : ∃ k1, k = k1 + 1 + 1 := ⟨k - 2, by omega⟩
    rw [stg_s]
    by_cases a : alI v = 0
    · have hf := fd_kd hF rfl
      have a2 : ¬ alI (psV v 300) = 0 := all_sent hr hi hf
      have a3 : hfF v 0 48 = 0 := by
        have A : ∀ k i, i + k ≤ 48 → hfF v i k = 0 := by
          intro k
          induction k with
          | zero => intro i _; rfl
          | succ k ih =>
            intro i h
            show (if kdI v i = 2 then 1 else hfF v (i + 1) k) = 0
            rw [if_neg (hf i (by omega)), ih (i + 1) (by omega)]
        exact A 48 0 (by omega)
      rw [if_pos a, if_neg (fun h => spends hi a a3 h.1), stg_s, if_neg a2]
      refine ⟨1, by omega, rfl, fun i h => ?_, a2⟩
      rw [show i = 0 by omega]; exact a
    · rw [if_neg a]
      exact ⟨0, by omega, rfl, fun i h => absurd h (Nat.not_lt_zero _), a⟩
  | succ d ih =>
    intro k n T v x hr hi hF hk hT
    obtain ⟨k1, rfl⟩ : ∃ k1, k = k1 + 1 := ⟨k - 1, by omega⟩
    rw [stg_s]
    by_cases a : alI v = 0
    · obtain ⟨x1, p1, p2⟩ := rel_ps hr hi (by omega) 300
      obtain ⟨j, j1, j2, j3, j4⟩ := ih k1 (n + 1) (T + 1) (psV v 300) x1 p1 p2 (fd_next hr hi hF 300) (by omega) (by omega)
      rw [if_pos a, if_neg (fun h => spends hi a h.2 h.1)]
      refine ⟨j + 1, by omega, by rw [j2, show n + 1 + j = n + (j + 1) by omega], fun i h => ?_, j4⟩
      rcases (show i = 0 ∨ ∃ i2, i = i2 + 1 from (by
        cases i with
        | zero => exact Or.inl rfl
        | succ i => exact Or.inr ⟨i, rfl⟩)) with z | ⟨i2, z⟩
      · rw [z]; exact a
      · rw [z]
        exact j3 i2 (by omega)
    · rw [if_neg a]
      exact ⟨0, by omega, rfl, fun i h => absurd h (Nat.not_lt_zero _), a⟩
/-- the steps that are told -/
theorem stg_end {v : SV} {y : Int32} {x : LV} {T : Nat} (u : SV) (hr : Rel v y x) (hi : Inv v T) (hT : T + 200 < 2 ^ 20) : ∃ j, j ≤ 6 ∧ (stgF 300 (coV u v) 0 100).1 = nI j ∧ (∀ i, i < j → alI (itV v i) = 0) ∧ ¬ alI (itV v j) = 0 := by
  obtain ⟨c1, c2⟩ := rel_co u hr hi
  rw [stg_two 300 100 0 T (coV u v) v x c1 hr c2 hi (by omega)]
  obtain ⟨j, j1, j2, j3, j4⟩ := stg_go 5 100 0 T v x hr hi (fd_of hi.1) (by omega) (by omega)
  exact ⟨j, j1, by rw [j2, Nat.zero_add], j3, j4⟩
theorem stg_now {v : SV} {y : Int32} {x : LV} {T : Nat} (u : SV) (hr : Rel v y x) (hi : Inv v T) (b : Int32) (h : ¬ alI v = 0) : (stgF b (coV u v) 0 100).1 = 0 := by
  obtain ⟨c1, c2⟩ := rel_co u hr hi
  have e : alI (coV u v) = alI v := al_two c1 hr c2.1 hi.1
  rw [stg_s, e, if_neg h]
  rfl
end
