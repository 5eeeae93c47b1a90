/-! the law from its entry -/
theorem lk_L_50 : fz_LI RL 50 yX3_init cX3_init 1 := ⟨⟨ii_X3, ⟨List.mem_of_getElem? (i := 48) (by decide +kernel), by decide +kernel⟩, by decide +kernel, by decide +kernel, by decide +kernel⟩, ⟨List.mem_of_getElem? (i := 46) (by decide +kernel), by decide +kernel⟩, ⟨List.mem_of_getElem? (i := 47) (by decide +kernel), by decide +kernel⟩, rfl⟩
theorem lk_L_53 : fz_LI RL 53 yX4_init cX4_init 2 := ⟨⟨ii_X4, ⟨List.mem_of_getElem? (i := 519) (by decide +kernel), by decide +kernel⟩, by decide +kernel, by decide +kernel, by decide +kernel⟩, ⟨List.mem_of_getElem? (i := 517) (by decide +kernel), by decide +kernel⟩, ⟨List.mem_of_getElem? (i := 518) (by decide +kernel), by decide +kernel⟩, rfl⟩
theorem vk_of {own tx : String} {k : Nat} {args : Array Value} {s : State} (h : (Cond.stringRef own k tx).before args s = true) : ∃ sa : Nat, vk_R own k tx sa s := by
  have hcur : ∃ cur, s.vm.findClass own = some cur := by
    have h1 := h
    simp only [Cond.before, Cond.holds, Cond.value] at h1
    cases hc : s.vm.findClass own with
    | none => simp [hc] at h1
    | some cur => exact ⟨cur, rfl⟩
  obtain ⟨cur, hcur⟩ := hcur
  obtain ⟨k', cf, j, a, hk, -, -, -, hr, hev⟩ := Cond.stringRef_spec hcur h
  exact ⟨a, vk_R.of h hev⟩
theorem ar_of {ty : FieldType} {args : Array Value} {s : State} (h : (Cond.arrayClass ty).before args s = true) : ∃ cA : ClassId, ArrOfT s cA ty ∧ s.vm.findClass ("[" ++ ty.toString) = some cA := by
  obtain ⟨c, kA, comp, h1, h2, h3⟩ := Cond.arrayClass_spec h
  exact ⟨c, fun n z => ⟨fun k h => (by cases h), kA, h2, comp, h3⟩, h1⟩
theorem ar_ob {C : String} {args : Array Value} {s : State} (h : (Cond.arrayOver (.object C)).before args s = true) : ∃ cA : ClassId, ArrOfT s cA (.object C) ∧ va_RA s cA (.object C) := by
  obtain ⟨comp, c, kA, h1, -, h2, h3, h4⟩ := Cond.arrayOver_spec h
  exact ⟨c, fun n z => ⟨fun k h => (by cases h), kA, h2, comp, h3⟩, kA, comp, h2, h3, h1, h4⟩
theorem fz_W.pick {g : GG} {A : Nat → Prop} {s : State} {ws ws1 : va_W} {H : Heap} {locs : List Loc} (hW : fz_W g A s ws H locs) (is : List Nat) (h : is.map (fun i => ws[i]?) = ws1.map some) (hn : va_nd is = true) : fz_W g A s ws1 H locs := ⟨fz_P.pick hW.1 is h, hW.2.1.sub is hn h, hW.2.2⟩
set_option maxHeartbeats 4000000 in
set_option maxRecDepth 100000 in
theorem law_E {s : State} {b : Nat} (hts : ∀ w ∈ lw_tbl, w.before #[Value.ref b] s = true) : ∃ g : GG, fz_E g s := by
  obtain ⟨c0, iS0, hKn0⟩ := u_known (C := RX0) (T := TX0) (N := 6) (n := 6) hts (fun w hw => (inX0 w hw).1) (hts _ ib_X0.1)
  obtain ⟨c1, iS1, hKn1⟩ := u_known (C := RX1) (T := TX1) (N := 2) (n := 2) hts (fun w hw => (inX1 w hw).1) (hts _ ib_X1.1)
  obtain ⟨c2, iS2, hKn2⟩ := u_known (C := RX2) (T := TX2) (N := 14) (n := 14) hts (fun w hw => (inX2 w hw).1) (hts _ ib_X2.1)
  obtain ⟨c3, iS3, hKn3⟩ := u_known (C := RX3) (T := TX3) (N := 2) (n := 2) hts (fun w hw => (inX3 w hw).1) (hts _ ib_X3.1)
  obtain ⟨c4, iS4, hKn4⟩ := u_known (C := RX4) (T := TX4) (N := 21) (n := 21) hts (fun w hw => (inX4 w hw).1) (hts _ ib_X4.1)
  obtain ⟨a0, ha0, hb0⟩ := ar_of (hts _ ar_i.1)
  obtain ⟨a1, ha1, hb1⟩ := ar_of (hts _ ar_z.1)
  obtain ⟨a2, ha2, hb2⟩ := ar_of (hts _ ar_l.1)
  obtain ⟨a3, ha3, hb3⟩ := ar_ob (hts _ ar_q.1)
  refine ⟨((fun k => if k = 0 then c0 else if k = 1 then c1 else if k = 2 then c2 else if k = 3 then c3 else c4, fun k => if k = 0 then iS0 else if k = 1 then iS1 else if k = 2 then iS2 else if k = 3 then iS3 else iS4), fun k => if k = 0 then a0 else if k = 1 then a1 else if k = 2 then a2 else a3), ⟨fun k q hq => ?_, fun k q hq => ?_⟩, fun w hm => fz_warm hm.2 (State.WarmedH.refl s) (hts w hm.1)⟩
  · match k, hq with
    | 0, hq => cases hq; exact hKn0
    | 1, hq => cases hq; exact hKn1
    | 2, hq => cases hq; exact hKn2
    | 3, hq => cases hq; exact hKn3
    | 4, hq => cases hq; exact hKn4
    | k + 5, hq => simp [classes] at hq
  · match k, hq with
    | 0, hq => cases hq; exact ⟨ha0, hb0⟩
    | 1, hq => cases hq; exact ⟨ha1, hb1⟩
    | 2, hq => cases hq; exact ⟨ha2, hb2⟩
    | 3, hq => cases hq; exact ⟨ha3, hb3⟩
    | k + 4, hq => simp [fz_tys] at hq
set_option maxHeartbeats 4000000 in
set_option maxRecDepth 100000 in
theorem law_Y {s : State} {b : Nat} {A : Nat → Prop} (hts : ∀ w ∈ lw_tbl, w.before #[Value.ref b] s = true) (hgv : (Jvm.Cond.and given_1 narrow_1).before #[Value.ref b] s = true) (hA : ∀ a : Nat, a < s.heap.size → ¬ A a) : fz_Y s A ∧ va_Nc XIA XIO s := by
  have hs := flat_of_before _ hgv
  have r1 : (Cond.isRef (.static Bundle.tN "UNASSIGNED_STACK" Bundle.steD)).before #[Value.ref b] s = true := hs _ (by decide +kernel)
  have r2 : (Cond.isRef (.static Bundle.tN "SUPPRESSED_SENTINEL" Bundle.listD)).before #[Value.ref b] s = true := hs _ (by decide +kernel)
  have r3 : (Cond.not (.castable XIA XIO)).before #[Value.ref b] s = true := hs _ (by decide +kernel)
  have t0 : (Cond.initialized Bundle.tN).before #[Value.ref b] s = true := hts _ (List.mem_of_getElem? (i := 35) (by decide +kernel))
  have t1 : (Cond.laysStatic Bundle.tN "UNASSIGNED_STACK" Bundle.steD).before #[Value.ref b] s = true := hts _ (List.mem_of_getElem? (i := 240) (by decide +kernel))
  have t2 : (Cond.laysStatic Bundle.tN "SUPPRESSED_SENTINEL" Bundle.listD).before #[Value.ref b] s = true := hts _ (List.mem_of_getElem? (i := 242) (by decide +kernel))
  refine ⟨⟨⟨vx_Zqof t1 t0 r1 hA, vx_Zqof t2 t0 r2 hA⟩, fun q hq => ?_⟩, va_Nc.of r3⟩
  have hq : q = (129, "no such tile") ∨ q = (131, "no such block") ∨ q = (25, "no such picture") ∨ q = (38, "the block would come to where it is") ∨ q = (133, "no such budget") ∨ q = (101, "not so many pictures are known") ∨ q = (107, "nothing is sent so") := by simpa [fz_strs] using hq
  rcases hq with rfl | rfl | rfl | rfl | rfl | rfl | rfl
  · exact vk_of (hts (.stringRef RX3 129 "no such tile") (List.mem_of_getElem? (i := 253) (by decide +kernel)))
  · exact vk_of (hts (.stringRef RX3 131 "no such block") (List.mem_of_getElem? (i := 280) (by decide +kernel)))
  · exact vk_of (hts (.stringRef RX3 25 "no such picture") (List.mem_of_getElem? (i := 290) (by decide +kernel)))
  · exact vk_of (hts (.stringRef RX3 38 "the block would come to where it is") (List.mem_of_getElem? (i := 333) (by decide +kernel)))
  · exact vk_of (hts (.stringRef RX3 133 "no such budget") (List.mem_of_getElem? (i := 366) (by decide +kernel)))
  · exact vk_of (hts (.stringRef RX3 101 "not so many pictures are known") (List.mem_of_getElem? (i := 482) (by decide +kernel)))
  · exact vk_of (hts (.stringRef RX3 107 "nothing is sent so") (List.mem_of_getElem? (i := 490) (by decide +kernel)))
set_option maxHeartbeats 4000000 in
set_option maxRecDepth 100000 in
theorem whole_start {p : Program} {e : Env} {s : State} {m : MethodId} {below : List Frame} {meth : Method} {c : Code} (l : Launch) (hflags : l.flags = flags0) {b L : Nat} {xs : Nat → Int32} (hL : L ≤ 3584) (C0 : lw_At p s m meth c b L xs) : W p l e room_1 s m #[Value.ref b] below meth c s.heap [] 0 0 (lw_Z below #[Value.ref b] s) (entryFrame m ([Value.ref b] : List Value).toArray 7) := by
  obtain ⟨hx, hb, hr, hml, hown, hts, hX, hbl, hlocks, hgv⟩ := C0
  have hfl : l.stackTraces = false := by
    unfold Launch.stackTraces
    rw [hflags]
    decide
  obtain ⟨g, hE⟩ := law_E hts
  generalize hAe : (fun z : Nat => s.heap.size ≤ z) = A
  have hAq : ∀ z, A z → s.heap.size ≤ z := fun z h => by rw [← hAe] at h; exact h
  have hA : ∀ z : Nat, s.heap.size ≤ z → A z := fun z h => by rw [← hAe]; exact h
  have hbA : ¬ A b := fun h => Nat.not_le.mpr hbl (hAq b h)
  obtain ⟨Y, hN⟩ := law_Y (A := A) hts hgv (fun z hz h => Nat.not_le.mpr hz (hAq z h))
  have X : fz_X p s m meth c RL cL_law 7 ret g A := ⟨hx, hb, hr, hml, hown, hlocks, hE, hA⟩
  have hW : fz_W g A s [] s.heap [] := ⟨fun k q h => by simp at h, ⟨fun i j p q h => by simp at h, fun k q h => by simp at h⟩, va_S.rf⟩
  have hl := lv_entry ([.ref b]) (n := 7) (Nat.le_of_ble_eq_true rfl)
  rw [lg_entry_eq]
  generalize (lg_sl ([.ref b]) ++ List.replicate (7 - (lg_sl ([.ref b])).length) Slot.unset).toArray = ls at hl ⊢
  have hl : lv_has ls 7 [(0, .ref b)] := hl
  refine fz_nw X hW (ci := 3) (fs := [.null, .null]) inX3 rfl tyX3 tyX3_ok cl_L_8 ib_X3 ii_X3 (fun j hj => by rcases (show j = 0 ∨ j = 1 by omega) with rfl | rfl <;> rfl) (Nat.le_of_ble_eq_true rfl) (Nat.le_of_ble_eq_true rfl) dL_law_0 (fun f H hW => ?_)
  have hW : fz_W g A s [(f, .inr (3, [.null, .null]))] H _ := hW
  refine lv_dup hx hb dL_law_3 rfl ?_
  refine fz_cI X hW (wc := [(f, .inr (3, [.null, .null]))]) (wr := []) [0] [] (c_X3_init l g f) lk_L_50 rfl rfl rfl (by decide) (by decide) ⟨(Nat.le_of_ble_eq_true rfl), (Nat.le_of_ble_eq_true rfl)⟩ hl (Nat.le_of_ble_eq_true rfl) dL_law_4 ⟨(Nat.le_of_ble_eq_true rfl), (Nat.le_of_ble_eq_true rfl)⟩ (fun W1 H locs hK hW => ?_)
  obtain ⟨a, d, rfl⟩ := hK
  have hW : fz_W g A s (FW g f a d SV0 SV0) H _ := hW
  refine lv_astore_n (lv' := [(1, .ref f), (0, .ref b)]) hx hb dL_law_7 rfl hl (by decide) rfl (fun ls hl => ?_)
  refine fz_nw X hW (ci := 4) (fs := [.int 0, .int 0, .int 0, .null, .null, .null, .null, .int 0, .null, .null, .null, .null, .int 0, .null, .null, .int 0, .null, .null, .null, .null, .int 0]) inX4 rfl tyX4 tyX4_ok cl_L_51 ib_X4 ii_X4 (fun j hj => by rcases (show j = 0 ∨ j = 1 ∨ j = 2 ∨ j = 3 ∨ j = 4 ∨ j = 5 ∨ j = 6 ∨ j = 7 ∨ j = 8 ∨ j = 9 ∨ j = 10 ∨ j = 11 ∨ j = 12 ∨ j = 13 ∨ j = 14 ∨ j = 15 ∨ j = 16 ∨ j = 17 ∨ j = 18 ∨ j = 19 ∨ j = 20 by omega) with rfl | rfl | rfl | rfl | rfl | rfl | rfl | rfl | rfl | rfl | rfl | rfl | rfl | rfl | rfl | rfl | rfl | rfl | rfl | rfl | rfl <;> rfl) (Nat.le_of_ble_eq_true rfl) (Nat.le_of_ble_eq_true rfl) dL_law_8 (fun q1 H hW => ?_)
  refine lv_dup hx hb dL_law_11 rfl ?_
  refine fz_cI X hW (wc := [(q1, .inr (4, [.int 0, .int 0, .int 0, .null, .null, .null, .null, .int 0, .null, .null, .null, .null, .int 0, .null, .null, .int 0, .null, .null, .null, .null, .int 0]))]) (wr := FW g f a d SV0 SV0) [35] [0, 1, 2, 3, 4, 5, 6, 7, 8, 9, 10, 11, 12, 13, 14, 15, 16, 17, 18, 19, 20, 21, 22, 23, 24, 25, 26, 27, 28, 29, 30, 31, 32, 33, 34] (c_X4_init l g q1) lk_L_53 rfl rfl rfl (by decide) (by decide) ⟨(Nat.le_of_ble_eq_true rfl), (Nat.le_of_ble_eq_true rfl)⟩ hl (Nat.le_of_ble_eq_true rfl) dL_law_12 ⟨(Nat.le_of_ble_eq_true rfl), (Nat.le_of_ble_eq_true rfl)⟩ (fun W1 H locs hK hW => ?_)
  obtain ⟨o, rfl, rfl⟩ := hK
  refine lv_astore_n (lv' := [(2, .ref (o 0)), (1, .ref f), (0, .ref b)]) hx hb dL_law_15 rfl hl (by decide) rfl (fun ls hl => ?_)
  refine lv_iconst (v := 1) hx hb dL_law_16 (by decide) ?_
  refine fz_ni X hW (atype := .long) (ty := .long) rfl ar_l 2 rfl (fun _ _ h => h) (N' := 1) (a0 := (1, .inr (.inl (fun _ => 0)))) (fun _ => rfl) (by decide) rfl (Nat.le_of_ble_eq_true rfl) (Nat.le_of_ble_eq_true rfl) (Nat.le_of_ble_eq_true rfl) dL_law_17 (fun q H hW => ?_)
  have hW : fz_W g A s (LW g f a d SV0 SV0 q (fun _ => 0) o MV0) H _ := fz_W.pick hW [0, 1, 2, 3, 4, 5, 6, 7, 8, 9, 10, 11, 12, 13, 14, 15, 16, 17, 18, 19, 20, 21, 22, 23, 24, 25, 26, 27, 28, 29, 30, 31, 32, 33, 34, 50, 35, 36, 37, 38, 39, 40, 41, 42, 43, 44, 45, 46, 47, 48, 49] rfl rfl
  refine lv_astore_n (lv' := [(3, .ref q), (2, .ref (o 0)), (1, .ref f), (0, .ref b)]) hx hb dL_law_19 rfl hl (by decide) rfl (fun ls hl => ?_)
  refine lv_iconst (v := 0) hx hb dL_law_20 (by decide) ?_
  refine fz_top (x' := nI (7 * 0)) rfl ?_
  refine lv_istore (lv' := [(4, .int (nI (7 * 0))), (3, .ref q), (2, .ref (o 0)), (1, .ref f), (0, .ref b)]) hx hb dL_law_21 hl (by decide) rfl (fun ls hl => ?_)
  refine W.widen (k := 60 + 5 * 0) (n := 2000 + 30 * 0) (Nat.le_of_ble_eq_true rfl) (Nat.le_of_ble_eq_true rfl) ?_
  exact law_loop X Y hN hfl hX hbl hbA hL hAq (L + 1) 0 (Nat.zero_le _) (by omega) SV0 SV0 (fun _ => 0) MV0 _ _ ls both_0 hW (lv_sub hl [4, 3, 2, 1, 0] rfl)
