/-! the law from its entry -/
theorem lk_L_84 : fz_LI RL 84 yX3_init cX3_init 1 := ⟨⟨ii_X3, ⟨List.mem_of_getElem? (i := 32) (by decide +kernel), by decide +kernel⟩, by decide +kernel, by decide +kernel, by decide +kernel⟩, ⟨List.mem_of_getElem? (i := 30) (by decide +kernel), by decide +kernel⟩, ⟨List.mem_of_getElem? (i := 31) (by decide +kernel), by decide +kernel⟩, rfl⟩
theorem vk_of {own tx : String} {k : Nat} {args : Array Value} {s : State} (h : (Cond.stringRef own k tx).before args s = true) : ∃ sa : Nat, vk_R own k tx sa s := by
  have hcur : ∃ cur, s.vm.findClass own = some cur := by
    have h1 := h
    simp only [Cond.before, Cond.holds, Cond.value] at h1
    cases hc : s.vm.findClass own with
    | none => simp [hc] at h1
    | some cur => exact ⟨cur, rfl⟩
  obtain ⟨cur, hcur⟩ := hcur
  obtain ⟨k', cf, j, a, hk, -, -, -, hr, hev⟩ := Cond.stringRef_spec hcur h
  exact ⟨a, vk_R.of h hev⟩
theorem ar_of {ty : FieldType} {args : Array Value} {s : State} (h : (Cond.arrayClass ty).before args s = true) : ∃ cA : ClassId, ArrOfT s cA ty ∧ s.vm.findClass ("[" ++ ty.toString) = some cA := by
  obtain ⟨c, kA, comp, h1, h2, h3⟩ := Cond.arrayClass_spec h
  exact ⟨c, fun n z => ⟨fun k h => (by cases h), kA, h2, comp, h3⟩, h1⟩
theorem ar_ob {C : String} {args : Array Value} {s : State} (h : (Cond.arrayOver (.object C)).before args s = true) : ∃ cA : ClassId, ArrOfT s cA (.object C) ∧ va_RA s cA (.object C) := by
  obtain ⟨comp, c, kA, h1, -, h2, h3, h4⟩ := Cond.arrayOver_spec h
  exact ⟨c, fun n z => ⟨fun k h => (by cases h), kA, h2, comp, h3⟩, kA, comp, h2, h3, h1, h4⟩
set_option maxHeartbeats 4000000 in
set_option maxRecDepth 100000 in
theorem law_E {s : State} {b : Nat} (hts : ∀ w ∈ lw_tbl, w.before #[Value.ref b] s = true) : ∃ g : GG, fz_E g s := by
  obtain ⟨c0, iS0, hKn0⟩ := u_known (C := RX0) (T := TX0) (N := 6) (n := 6) hts (fun w hw => (inX0 w hw).1) (hts _ ib_X0.1)
  obtain ⟨c1, iS1, hKn1⟩ := u_known (C := RX1) (T := TX1) (N := 2) (n := 2) hts (fun w hw => (inX1 w hw).1) (hts _ ib_X1.1)
  obtain ⟨c2, iS2, hKn2⟩ := u_known (C := RX2) (T := TX2) (N := 14) (n := 14) hts (fun w hw => (inX2 w hw).1) (hts _ ib_X2.1)
  obtain ⟨c3, iS3, hKn3⟩ := u_known (C := RX3) (T := TX3) (N := 2) (n := 2) hts (fun w hw => (inX3 w hw).1) (hts _ ib_X3.1)
  obtain ⟨a0, ha0, hb0⟩ := ar_of (hts _ ar_i.1)
  obtain ⟨a3, ha3, hb3⟩ := ar_ob (hts _ ar_q.1)
  refine ⟨((fun k => if k = 0 then c0 else if k = 1 then c1 else if k = 2 then c2 else c3, fun k => if k = 0 then iS0 else if k = 1 then iS1 else if k = 2 then iS2 else iS3), fun k => if k = 3 then a3 else a0), ⟨fun k q hq => ?_, fun k q hq => ?_⟩, fun w hm => fz_warm hm.2 (State.WarmedH.refl s) (hts w hm.1)⟩
  · match k, hq with
    | 0, hq => cases hq; exact hKn0
    | 1, hq => cases hq; exact hKn1
    | 2, hq => cases hq; exact hKn2
    | 3, hq => cases hq; exact hKn3
    | k + 4, hq => simp [classes] at hq
  · match k, hq with
    | 0, hq => cases hq; exact ⟨ha0, hb0⟩
    | 1, hq => cases hq; exact ⟨ha0, hb0⟩
    | 2, hq => cases hq; exact ⟨ha0, hb0⟩
    | 3, hq => cases hq; exact ⟨ha3, hb3⟩
    | k + 4, hq => simp [fz_tys] at hq
set_option maxHeartbeats 4000000 in
set_option maxRecDepth 100000 in
theorem law_Y {s : State} {b : Nat} {A : Nat → Prop} (hts : ∀ w ∈ lw_tbl, w.before #[Value.ref b] s = true) (hgv : (Jvm.Cond.and given_1 narrow_1).before #[Value.ref b] s = true) (hA : ∀ a : Nat, a < s.heap.size → ¬ A a) : fz_Y s A ∧ va_Nc XIA XIO s := by
  have hs := flat_of_before _ hgv
  have r1 : (Cond.isRef (.static Bundle.tN "UNASSIGNED_STACK" Bundle.steD)).before #[Value.ref b] s = true := hs _ (by decide +kernel)
  have r2 : (Cond.isRef (.static Bundle.tN "SUPPRESSED_SENTINEL" Bundle.listD)).before #[Value.ref b] s = true := hs _ (by decide +kernel)
  have r3 : (Cond.not (.castable XIA XIO)).before #[Value.ref b] s = true := hs _ (by decide +kernel)
  have t0 : (Cond.initialized Bundle.tN).before #[Value.ref b] s = true := hts _ (List.mem_of_getElem? (i := 19) (by decide +kernel))
  have t1 : (Cond.laysStatic Bundle.tN "UNASSIGNED_STACK" Bundle.steD).before #[Value.ref b] s = true := hts _ (List.mem_of_getElem? (i := 180) (by decide +kernel))
  have t2 : (Cond.laysStatic Bundle.tN "SUPPRESSED_SENTINEL" Bundle.listD).before #[Value.ref b] s = true := hts _ (List.mem_of_getElem? (i := 182) (by decide +kernel))
  refine ⟨⟨⟨vx_Zqof t1 t0 r1 hA, vx_Zqof t2 t0 r2 hA⟩, fun q hq => ?_⟩, va_Nc.of r3⟩
  have hq : q = (129, "no such tile") ∨ q = (131, "no such block") ∨ q = (25, "no such picture") ∨ q = (38, "the block would come to where it is") ∨ q = (133, "no such budget") ∨ q = (101, "not so many pictures are known") ∨ q = (107, "nothing is sent so") := by simpa [fz_strs] using hq
  rcases hq with rfl | rfl | rfl | rfl | rfl | rfl | rfl
  · exact vk_of (hts (.stringRef RX3 129 "no such tile") (List.mem_of_getElem? (i := 193) (by decide +kernel)))
  · exact vk_of (hts (.stringRef RX3 131 "no such block") (List.mem_of_getElem? (i := 220) (by decide +kernel)))
  · exact vk_of (hts (.stringRef RX3 25 "no such picture") (List.mem_of_getElem? (i := 230) (by decide +kernel)))
  · exact vk_of (hts (.stringRef RX3 38 "the block would come to where it is") (List.mem_of_getElem? (i := 273) (by decide +kernel)))
  · exact vk_of (hts (.stringRef RX3 133 "no such budget") (List.mem_of_getElem? (i := 300) (by decide +kernel)))
  · exact vk_of (hts (.stringRef RX3 101 "not so many pictures are known") (List.mem_of_getElem? (i := 448) (by decide +kernel)))
  · exact vk_of (hts (.stringRef RX3 107 "nothing is sent so") (List.mem_of_getElem? (i := 473) (by decide +kernel)))
def r7 (q0 q1 q2 q3 q4 q5 q6 : Nat) : Nat → Nat := fun k => match k with
  | 0 => q0
  | 1 => q1
  | 2 => q2
  | 3 => q3
  | 4 => q4
  | 5 => q5
  | _ => q6
def X00 : LV := LV.mk9 (fun _ => 0) (fun _ => 0) (fun _ => 0) (fun _ => 0) (fun _ => 0) (fun _ => 0) (fun _ => 0)
theorem bo_0 : Bo SV0 (X00.uS (fz_to (fun _ => -1) X00.u 48)) 0 := by
  refine ⟨⟨fun t ht => rfl, fun t ht => rfl, fun t ht => rfl, fun t ht => rfl, fun j i hj => absurd hj (Nat.not_lt_zero _), fun k hk => absurd hk (Nat.not_lt_zero _), fun k _ _ => rfl, rfl, rfl, rfl, rfl, fun k _ => rfl⟩, ⟨Nat.zero_le _, Nat.zero_le _, fun j hj => absurd hj (Nat.not_lt_zero _), by decide, fun t ht => ⟨0, by decide, rfl⟩, fun t ht => ⟨0, by decide, rfl⟩, fun t ht => ⟨0, by decide, rfl⟩, fun k hk => absurd hk (Nat.not_lt_zero _), ⟨0, Nat.le_refl _, rfl, fun t ht => Or.inl (fz_to_lt (f := fun _ => -1) (h := fun _ => 0) ht)⟩, by decide⟩, fun t ht => ⟨fun _ => rfl, fun _ => fz_to_lt (f := fun _ => -1) (h := fun _ => 0) ht⟩⟩
set_option maxHeartbeats 4000000 in
set_option maxRecDepth 100000 in
theorem la_init {p : Program} {l : Launch} {e : Env} {s : State} {m : MethodId} {args : Array Value} {below : List Frame} {meth : Method} {c : Code} {H : Heap} {locs : List Loc} {cells slots : Nat} {Q : State → Prop} {rt : Option FieldType} {g : GG} {A : Nat → Prop} {ls : Array Slot} {b0 L K f : Nat} {xs : Nat → Int32} {a b r : Nat → Nat} {v u : SV} {x : LV} (X : fz_X p s m meth c RL cL_law 20 rt g A) (hW : fz_W g A s (LW g f a b v u r x) H locs) (hl : lv_has ls 20 [(0, .ref b0), (1, .ref f), (2, .ref (r 0)), (3, .ref (r 1)), (4, .ref (r 2)), (5, .ref (r 3)), (6, .ref (r 4)), (7, .ref (r 5)), (8, .ref (r 6))]) (kk : ∀ (H : Heap) (locs : List Loc) (ls : Array Slot), fz_W g A s (LW g f a b v u r (x.uS (fz_to (fun _ => -1) x.u 48))) H locs → lv_has ls 20 (loB b0 f r 0) → W p l e room_1 s m args below meth c H locs cells slots Q (F0 m 73 ls [])) : W p l e room_1 s m args below meth c H locs cells slots Q (F0 m 48 ls []) := by
  have hx := X.1
  have hb := X.2.1
  have hl : lv_has ls 20 [(0, .ref b0), (1, .ref f), (2, .ref (r 0)), (3, .ref (r 1)), (4, .ref (r 2)), (5, .ref (r 3)), (6, .ref (r 4)), (7, .ref (r 5)), (8, .ref (r 6))] := hl
  have hW : fz_W g A s (LW g f a b v u r x) H locs := hW
  refine lv_iconst (v := 0) hx hb dL_law_48 (by decide) ?_
  refine lv_istore (lv' := [(9, .int 0), (0, .ref b0), (1, .ref f), (2, .ref (r 0)), (3, .ref (r 1)), (4, .ref (r 2)), (5, .ref (r 3)), (6, .ref (r 4)), (7, .ref (r 5)), (8, .ref (r 6))]) hx hb dL_law_49 hl (by decide) rfl (fun ls hl => ?_)
  have loop51 : ∀ (k : Nat) (i : Nat), i ≤ 48 → 48 < i + k → ∀ (H : Heap) (locs : List Loc) (ls : Array Slot), fz_W g A s (LW g f a b v u r (x.uS (fz_to (fun _ => -1) x.u i))) H locs → lv_has ls 20 [(0, .ref b0), (1, .ref f), (2, .ref (r 0)), (3, .ref (r 1)), (4, .ref (r 2)), (5, .ref (r 3)), (6, .ref (r 4)), (7, .ref (r 5)), (8, .ref (r 6)), (9, .int (nI i))] → W p l e room_1 s m args below meth c H locs cells slots Q (F0 m 51 ls []) := by
    intro k
    induction k with
    | zero =>
      intro i hi hk
      omega
    | succ k ih51 =>
      intro i hi hki H locs ls hW hl
      refine lv_iload hx hb dL_law_51 (lv_at hl 9 rfl) ?_
      refine lv_bipush (v := 48) hx hb dL_law_53 (by decide) ?_
      refine lv_icmp_ge (tgt := 70) hx hb dL_law_55 (by decide) (fun c55 => ?_) (fun c55 => ?_)
      · skip
        have h55 : 48 ≤ i := (nI_leI (a := 48) (b := i) (by omega) (by omega)).mp c55
        have e55 : i = 48 := by omega
        have hl := lv_sub hl [0, 1, 2, 3, 4, 5, 6, 7, 8] rfl
        have hl : lv_has ls 20 [(0, .ref b0), (1, .ref f), (2, .ref (r 0)), (3, .ref (r 1)), (4, .ref (r 2)), (5, .ref (r 3)), (6, .ref (r 4)), (7, .ref (r 5)), (8, .ref (r 6))] := hl
        have hW : fz_W g A s (LW g f a b v u r (x.uS (fz_to (fun _ => -1) x.u 48))) H locs := fz_cast (by rw [e55]) hW
        refine lv_iconst (v := 0) hx hb dL_law_70 (by decide) ?_
        refine lv_istore (lv' := [(9, .int 0), (0, .ref b0), (1, .ref f), (2, .ref (r 0)), (3, .ref (r 1)), (4, .ref (r 2)), (5, .ref (r 3)), (6, .ref (r 4)), (7, .ref (r 5)), (8, .ref (r 6))]) hx hb dL_law_71 hl (by decide) rfl (fun ls hl => ?_)
        exact kk _ _ _ hW (lv_sub hl [1, 2, 3, 4, 5, 6, 7, 8, 9, 0] rfl)
      · skip
        have h55 : i < 48 := Nat.not_le.mp (fun z => c55 ((nI_leI (a := 48) (b := i) (by omega) (by omega)).mpr z))
        refine lv_aload hx hb dL_law_58 (lv_at hl 4 rfl) ?_
        refine lv_iload hx hb dL_law_60 (lv_at hl 9 rfl) ?_
        refine lv_iconst (v := (-1)) hx hb dL_law_62 (by decide) ?_
        refine fz_is X hW 37 (i) rfl rfl (by omega) (by decide) dL_law_63 (fun H locs hW => ?_)
        refine lv_iinc (v := nI (i + 1)) (lv' := [(9, .int (nI (i + 1))), (0, .ref b0), (1, .ref f), (2, .ref (r 0)), (3, .ref (r 1)), (4, .ref (r 2)), (5, .ref (r 3)), (6, .ref (r 4)), (7, .ref (r 5)), (8, .ref (r 6))]) hx hb dL_law_64 hl (k := 9) rfl (nI_1 _) (by decide) rfl (fun ls hl => ?_)
        refine lv_goto (tgt := 51) hx hb dL_law_67 (by decide) ?_
        exact ih51 (i + 1) (by omega) (by omega) _ _ _ (fz_cast (congrArg (fun z => (LW g f a b v u r (x.uS z) : va_W)) (fz_to_s (fun _ => -1) x.u i rfl)) hW) (lv_sub hl [1, 2, 3, 4, 5, 6, 7, 8, 9, 0] rfl)
  exact loop51 (48 + 1) 0 (by omega) (by omega) _ _ _ (fz_cast (congrArg (fun z => (LW g f a b v u r (x.uS z) : va_W)) (fz_to_0 (fun _ => -1) x.u).symm) hW) (lv_sub hl [1, 2, 3, 4, 5, 6, 7, 8, 9, 0] rfl)
set_option maxHeartbeats 8000000 in
set_option maxRecDepth 100000 in
theorem whole_start {p : Program} {e : Env} {s : State} {m : MethodId} {below : List Frame} {meth : Method} {c : Code} (l : Launch) (hflags : l.flags = flags0) {b L : Nat} {xs : Nat → Int32} (hL : L ≤ 260) (C0 : lw_At p s m meth c b L xs) : W p l e room_1 s m #[Value.ref b] below meth c s.heap [] 0 0 (lw_Z below #[Value.ref b] s) (entryFrame m ([Value.ref b] : List Value).toArray 20) := by
  obtain ⟨hx, hb, hr, hml, hown, hts, hX, hbl, hlocks, hgv⟩ := C0
  have hfl : l.stackTraces = false := by
    unfold Launch.stackTraces
    rw [hflags]
    decide
  obtain ⟨g, hE⟩ := law_E hts
  generalize hAe : (fun z : Nat => s.heap.size ≤ z) = A
  have hAq : ∀ z, A z → s.heap.size ≤ z := fun z h => by rw [← hAe] at h; exact h
  have hA : ∀ z : Nat, s.heap.size ≤ z → A z := fun z h => by rw [← hAe]; exact h
  have hbA : ¬ A b := fun h => Nat.not_le.mpr hbl (hAq b h)
  obtain ⟨Y, hN⟩ := law_Y (A := A) hts hgv (fun z hz h => Nat.not_le.mpr hz (hAq z h))
  have X : fz_X p s m meth c RL cL_law 20 ret g A := ⟨hx, hb, hr, hml, hown, hlocks, hE, hA⟩
  have hW : fz_W g A s [] s.heap [] := ⟨fun k q h => by simp at h, ⟨fun i j p q h => by simp at h, fun k q h => by simp at h⟩, va_S.rf⟩
  have hl := lv_entry ([.ref b]) (n := 20) (Nat.le_of_ble_eq_true rfl)
  rw [lg_entry_eq]
  generalize (lg_sl ([.ref b]) ++ List.replicate (20 - (lg_sl ([.ref b])).length) Slot.unset).toArray = ls at hl ⊢
  have hl : lv_has ls 20 [(0, .ref b)] := hl
  refine fz_nw X hW (ci := 3) (fs := [.null, .null]) inX3 rfl tyX3 tyX3_ok cl_L_29 ib_X3 ii_X3 (fun j hj => by rcases (show j = 0 ∨ j = 1 by omega) with rfl | rfl <;> rfl) (Nat.le_of_ble_eq_true rfl) (Nat.le_of_ble_eq_true rfl) dL_law_0 (fun f H hW => ?_)
  have hW : fz_W g A s [(f, .inr (3, [.null, .null]))] H _ := hW
  refine lv_dup hx hb dL_law_3 rfl ?_
  refine fz_cI X hW (wc := [(f, .inr (3, [.null, .null]))]) (wr := []) [0] [] (c_X3_init l g f) lk_L_84 rfl rfl rfl (by decide) (by decide) ⟨(Nat.le_of_ble_eq_true rfl), (Nat.le_of_ble_eq_true rfl)⟩ hl (Nat.le_of_ble_eq_true rfl) dL_law_4 ⟨(Nat.le_of_ble_eq_true rfl), (Nat.le_of_ble_eq_true rfl)⟩ (fun W1 H locs hK hW => ?_)
  obtain ⟨a, d, rfl⟩ := hK
  have hW : fz_W g A s (FW g f a d SV0 SV0) H _ := hW
  refine lv_astore_n (lv' := [(1, .ref f), (0, .ref b)]) hx hb dL_law_7 rfl hl (by decide) rfl (fun ls hl => ?_)
  refine lv_bipush (v := 48) hx hb dL_law_8 (by decide) ?_
  refine fz_ni X hW (atype := .int) (ty := .int) rfl ar_i 0 rfl (fun _ _ h => h) (N' := 48) (a0 := (48, .inl (fun _ => 0))) (fun _ => rfl) (by decide) rfl (Nat.le_of_ble_eq_true rfl) (Nat.le_of_ble_eq_true rfl) (Nat.le_of_ble_eq_true rfl) dL_law_10 (fun q0 H hW => ?_)
  refine lv_astore_n (lv' := [(2, .ref q0), (1, .ref f), (0, .ref b)]) hx hb dL_law_12 rfl hl (by decide) rfl (fun ls hl => ?_)
  refine lv_bipush (v := 48) hx hb dL_law_13 (by decide) ?_
  refine fz_ni X hW (atype := .int) (ty := .int) rfl ar_i 0 rfl (fun _ _ h => h) (N' := 48) (a0 := (48, .inl (fun _ => 0))) (fun _ => rfl) (by decide) rfl (Nat.le_of_ble_eq_true rfl) (Nat.le_of_ble_eq_true rfl) (Nat.le_of_ble_eq_true rfl) dL_law_15 (fun q1 H hW => ?_)
  refine lv_astore_n (lv' := [(3, .ref q1), (2, .ref q0), (1, .ref f), (0, .ref b)]) hx hb dL_law_17 rfl hl (by decide) rfl (fun ls hl => ?_)
  refine lv_bipush (v := 48) hx hb dL_law_18 (by decide) ?_
  refine fz_ni X hW (atype := .int) (ty := .int) rfl ar_i 0 rfl (fun _ _ h => h) (N' := 48) (a0 := (48, .inl (fun _ => 0))) (fun _ => rfl) (by decide) rfl (Nat.le_of_ble_eq_true rfl) (Nat.le_of_ble_eq_true rfl) (Nat.le_of_ble_eq_true rfl) dL_law_20 (fun q2 H hW => ?_)
  refine lv_astore (lv' := [(4, .ref q2), (3, .ref q1), (2, .ref q0), (1, .ref f), (0, .ref b)]) hx hb dL_law_22 hl (by decide) rfl (fun ls hl => ?_)
  refine lv_bipush (v := 48) hx hb dL_law_24 (by decide) ?_
  refine fz_ni X hW (atype := .int) (ty := .int) rfl ar_i 0 rfl (fun _ _ h => h) (N' := 48) (a0 := (48, .inl (fun _ => 0))) (fun _ => rfl) (by decide) rfl (Nat.le_of_ble_eq_true rfl) (Nat.le_of_ble_eq_true rfl) (Nat.le_of_ble_eq_true rfl) dL_law_26 (fun q3 H hW => ?_)
  refine lv_astore (lv' := [(5, .ref q3), (4, .ref q2), (3, .ref q1), (2, .ref q0), (1, .ref f), (0, .ref b)]) hx hb dL_law_28 hl (by decide) rfl (fun ls hl => ?_)
  refine lv_bipush (v := 30) hx hb dL_law_30 (by decide) ?_
  refine fz_ni X hW (atype := .int) (ty := .int) rfl ar_i 0 rfl (fun _ _ h => h) (N' := 30) (a0 := (30, .inl (fun _ => 0))) (fun _ => rfl) (by decide) rfl (Nat.le_of_ble_eq_true rfl) (Nat.le_of_ble_eq_true rfl) (Nat.le_of_ble_eq_true rfl) dL_law_32 (fun q4 H hW => ?_)
  refine lv_astore (lv' := [(6, .ref q4), (5, .ref q3), (4, .ref q2), (3, .ref q1), (2, .ref q0), (1, .ref f), (0, .ref b)]) hx hb dL_law_34 hl (by decide) rfl (fun ls hl => ?_)
  refine lv_bipush (v := 9) hx hb dL_law_36 (by decide) ?_
  refine fz_ni X hW (atype := .int) (ty := .int) rfl ar_i 0 rfl (fun _ _ h => h) (N' := 9) (a0 := (9, .inl (fun _ => 0))) (fun _ => rfl) (by decide) rfl (Nat.le_of_ble_eq_true rfl) (Nat.le_of_ble_eq_true rfl) (Nat.le_of_ble_eq_true rfl) dL_law_38 (fun q5 H hW => ?_)
  refine lv_astore (lv' := [(7, .ref q5), (6, .ref q4), (5, .ref q3), (4, .ref q2), (3, .ref q1), (2, .ref q0), (1, .ref f), (0, .ref b)]) hx hb dL_law_40 hl (by decide) rfl (fun ls hl => ?_)
  refine lv_bipush (v := 8) hx hb dL_law_42 (by decide) ?_
  refine fz_ni X hW (atype := .int) (ty := .int) rfl ar_i 0 rfl (fun _ _ h => h) (N' := 8) (a0 := (8, .inl (fun _ => 0))) (fun _ => rfl) (by decide) rfl (Nat.le_of_ble_eq_true rfl) (Nat.le_of_ble_eq_true rfl) (Nat.le_of_ble_eq_true rfl) dL_law_44 (fun q6 H hW => ?_)
  refine lv_astore (lv' := [(8, .ref q6), (7, .ref q5), (6, .ref q4), (5, .ref q3), (4, .ref q2), (3, .ref q1), (2, .ref q0), (1, .ref f), (0, .ref b)]) hx hb dL_law_46 hl (by decide) rfl (fun ls hl => ?_)
  have hW : fz_W g A s (LW g f a d SV0 SV0 (r7 q0 q1 q2 q3 q4 q5 q6) X00) H _ := hW
  refine W.widen (k := 100 + 10 * 0) (n := 2000 + 100 * 0) (Nat.le_of_ble_eq_true rfl) (Nat.le_of_ble_eq_true rfl) ?_
  refine la_init (L := L) (xs := xs) (K := 0) (b0 := b) (r := r7 q0 q1 q2 q3 q4 q5 q6) (x := X00) X hW (lv_sub hl [8, 7, 6, 5, 4, 3, 2, 1, 0] rfl) (fun H locs ls hW hl => ?_)
  exact law_loop X Y hN hfl hX hbl hbA hL hAq 61 0 (Nat.zero_le _) (by omega) SV0 SV0 _ _ _ ls bo_0 hW hl
