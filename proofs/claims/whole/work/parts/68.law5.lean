/-! the law's cases: look, step, near -/
set_option maxHeartbeats 4000000 in
set_option maxRecDepth 100000 in
theorem lc_look {p : Program} {l : Launch} {e : Env} {s : State} {m : MethodId} {args : Array Value} {below : List Frame} {meth : Method} {c : Code} {H : Heap} {locs : List Loc} {cells slots : Nat} {Q : State → Prop} {rt : Option FieldType} {g : GG} {A : Nat → Prop} {ls : Array Slot} {b0 L i K f q : Nat} {xs : Nat → Int32} {a d o : Nat → Nat} {v u : SV} {lf : Nat → Int64} {w : MV} (X : fz_X p s m meth c RL cL_law 7 rt g A) (Y : fz_Y s A) (hN : va_Nc XIA XIO s) (hfl : l.stackTraces = false) (hX : va_X b0 L xs s s.heap) (hbl : b0 < s.heap.size) (hbA : ¬ A b0) (hL : L ≤ 3584) (hi : i + 7 ≤ L) (hB : Both v w K) (hK : K ≤ 1000) (hcs : cells + 5 ≤ 601024 ∧ slots + 30 ≤ 7293034) (hW : fz_W g A s (LW g f a d v u q lf o w) H locs) (hl : lv_has ls 7 (lo5 b0 f (o 0) q i))
    (kk : ∀ (v u : SV) (lf : Nat → Int64) (w : MV) (H : Heap) (locs : List Loc) (ls : Array Slot), Both v w (K + 1) → fz_W g A s (LW g f a d v u q lf o w) H locs → lv_has ls 7 (lo5 b0 f (o 0) q i) → W p l e room_1 s m args below meth c H locs (cells + 5) (slots + 30) Q (F0 m 1006 ls [])) : W p l e room_1 s m args below meth c H locs cells slots Q (F0 m 350 ls []) := by
  have hx := X.1
  have hb := X.2.1
  have hl : lv_has ls 7 [(0, .ref b0), (1, .ref f), (2, .ref (o 0)), (3, .ref q), (4, .int (nI i))] := hl
  have pr := pr_look hB hK (xs (i + 1)) (xs (i + 2))
  refine lv_aload_n hx hb dL_law_350 rfl (lv_at hl 1 rfl) ?_
  refine lv_aload_n hx hb dL_law_351 rfl (lv_at hl 0 rfl) ?_
  refine lv_iload hx hb dL_law_352 (lv_at hl 4 rfl) ?_
  refine lv_iconst (v := 1) hx hb dL_law_354 (by decide) ?_
  refine lv_iadd hx hb dL_law_355 ?_
  refine fz_sx X hW hX hbl hbA (i + 1) (nI_add i 1) (by omega) hL dL_law_356 ?_
  refine lv_aload_n hx hb dL_law_357 rfl (lv_at hl 0 rfl) ?_
  refine lv_iload hx hb dL_law_358 (lv_at hl 4 rfl) ?_
  refine lv_iconst (v := 2) hx hb dL_law_360 (by decide) ?_
  refine lv_iadd hx hb dL_law_361 ?_
  refine fz_sx X hW hX hbl hbA (i + 2) (nI_add i 2) (by omega) hL dL_law_362 ?_
  refine lv_aload_n hx hb dL_law_363 rfl (lv_at hl 3 rfl) ?_
  rcases hex : exT (xs (i + 1)) (xs (i + 2)) with _ | E
  · skip
    obtain ⟨t1, t2, t3⟩ := pr.1 hex
    refine fz_cH X Y hN hW (fz_CH.lw (h_look l hfl g f a d v u q lf (xs (i + 1)) (xs (i + 2)) (FW g f a d (v.laS (tN (xs (i + 1)) (xs (i + 2)))) (u) ++ [LR g q (vp_updL lf 0 (nI v.la).toInt64)]) 0 (fun _ => ⟨rfl, rfl⟩) (fun E z => by rw [hex] at z; cases z)) o w) lh_68 rfl ⟨(Nat.le_of_ble_eq_true rfl), (Nat.le_of_ble_eq_true rfl)⟩ hl rfl (Nat.le_of_ble_eq_true rfl) dL_law_364 (ce1 hcs (by omega) (by omega)) (fun H locs hW => ?_)
    generalize hv1 : v.laS (tN (xs (i + 1)) (xs (i + 2))) = v1 at hW t3
    generalize hx1 : nI v.la = x1 at hW t2
    refine lv_istore (lv' := [(5, .int 0), (0, .ref b0), (1, .ref f), (2, .ref (o 0)), (3, .ref q), (4, .int (nI i))]) hx hb dL_law_367 hl (by decide) rfl (fun ls hl => ?_)
    refine lv_aload_n hx hb dL_law_369 rfl (lv_at hl 3 rfl) ?_
    refine lv_aload_n hx hb dL_law_370 rfl (lv_at hl 1 rfl) ?_
    refine lv_iload hx hb dL_law_371 (lv_at hl 5 rfl) ?_
    refine lv_iconst (v := 1) hx hb dL_law_373 (by decide) ?_
    refine lv_iadd hx hb dL_law_374 ?_
    refine fz_sx X hW hX hbl hbA (i + 1) (nI_add i 1) (by omega) hL dL_law_375 ?_
    refine lv_aload_n hx hb dL_law_376 rfl (lv_at hl 1 rfl) ?_
    refine lv_iload hx hb dL_law_377 (lv_at hl 5 rfl) ?_
    refine lv_iconst (v := 2) hx hb dL_law_379 (by decide) ?_
    refine lv_iadd hx hb dL_law_380 ?_
    refine fz_sx X hW hX hbl hbA (i + 2) (nI_add i 2) (by omega) hL dL_law_381 ?_
    refine fz_cVi X hW (fz_C.lwM (c_X4_look l g o w (xs (i + 1)) (xs (i + 2))) f a d v1 u q (vp_updL lf 0 x1.toInt64)) lk_L_71 (ci := 4) (q0 := 36) rfl rfl rfl rfl ⟨(Nat.le_of_ble_eq_true rfl), (Nat.le_of_ble_eq_true rfl)⟩ hl rfl (Nat.le_of_ble_eq_true rfl) dL_law_382 (ce1 hcs (by omega) (by omega)) (fun H locs hW => ?_)
    generalize hw1 : (mloR w (xs (i + 1)) (xs (i + 2))).2 = w1 at hW t1 t3
    generalize hy1 : (mloR w (xs (i + 1)) (xs (i + 2))).1 = y1 at t2 ⊢
    refine lv_istore (lv' := [(6, .int y1), (5, .int 0), (0, .ref b0), (1, .ref f), (2, .ref (o 0)), (3, .ref q), (4, .int (nI i))]) hx hb dL_law_385 hl (by decide) rfl (fun ls hl => ?_)
    refine lv_aload_n hx hb dL_law_387 rfl (lv_at hl 4 rfl) ?_
    refine fz_cVi X hW (fz_C.lwM (c_X4_thrown l g o w1) f a d v1 u q (vp_updL lf 0 x1.toInt64)) lk_L_60 (ci := 4) (q0 := 36) rfl rfl rfl rfl ⟨(Nat.le_of_ble_eq_true rfl), (Nat.le_of_ble_eq_true rfl)⟩ hl rfl (Nat.le_of_ble_eq_true rfl) dL_law_388 (ce1 hcs (by omega) (by omega)) (fun H locs hW => ?_)
    refine lv_iload hx hb dL_law_391 (lv_at hl 1 rfl) ?_
    refine lv_icmp_eq (tgt := 398) hx hb dL_law_393 (by decide) (fun c1 => ?_) (fun c1 => absurd t1 c1)
    refine lv_iload hx hb dL_law_398 (lv_at hl 1 rfl) ?_
    refine lv_if_ne (tgt := 415) hx hb dL_law_400 (by decide) (fun c2 => absurd rfl c2) (fun c2 => ?_)
    refine lv_aload_n hx hb dL_law_403 rfl (lv_at hl 5 rfl) ?_
    refine lv_iconst (v := 0) hx hb dL_law_404 (by decide) ?_
    refine fz_jl X hW 35 0 rfl rfl (by omega) (by decide) dL_law_405 ?_
    refine lv_iload hx hb dL_law_406 (lv_at hl 0 rfl) ?_
    refine lv_i2l hx hb dL_law_408 rfl ?_
    refine W.lcmp hx hb dL_law_409 ?_
    refine lv_if_eq (tgt := 415) hx hb dL_law_410 (by decide) (fun c3 => ?_) (fun c3 => absurd (lg_same (by rw [up_0, t2])) c3)
    refine lv_goto (tgt := 1006) hx hb dL_law_415 (by decide) ?_
    refine W.widen (k := cells + 5) (n := slots + 30) (by omega) (by omega) ?_
    exact kk v1 u (vp_updL lf 0 x1.toInt64) w1 _ _ _ t3 hW (lv_sub hl [2, 3, 4, 5, 6] rfl)
  · skip
    obtain ⟨t1, t3⟩ := pr.2 E hex
    refine fz_cH X Y hN hW (fz_CH.lw (h_look l hfl g f a d v u q lf (xs (i + 1)) (xs (i + 2)) (FW g f a d v u ++ [LR g q lf]) (cd1 E) (fun z => by rw [hex] at z; cases z) (fun E2 z => by rw [hex] at z; cases z; exact ⟨rfl, rfl⟩)) o w) lh_68 rfl ⟨(Nat.le_of_ble_eq_true rfl), (Nat.le_of_ble_eq_true rfl)⟩ hl rfl (Nat.le_of_ble_eq_true rfl) dL_law_364 (ce1 hcs (by omega) (by omega)) (fun H locs hW => ?_)
    refine lv_istore (lv' := [(5, .int (cd1 E)), (0, .ref b0), (1, .ref f), (2, .ref (o 0)), (3, .ref q), (4, .int (nI i))]) hx hb dL_law_367 hl (by decide) rfl (fun ls hl => ?_)
    refine lv_aload_n hx hb dL_law_369 rfl (lv_at hl 3 rfl) ?_
    refine lv_aload_n hx hb dL_law_370 rfl (lv_at hl 1 rfl) ?_
    refine lv_iload hx hb dL_law_371 (lv_at hl 5 rfl) ?_
    refine lv_iconst (v := 1) hx hb dL_law_373 (by decide) ?_
    refine lv_iadd hx hb dL_law_374 ?_
    refine fz_sx X hW hX hbl hbA (i + 1) (nI_add i 1) (by omega) hL dL_law_375 ?_
    refine lv_aload_n hx hb dL_law_376 rfl (lv_at hl 1 rfl) ?_
    refine lv_iload hx hb dL_law_377 (lv_at hl 5 rfl) ?_
    refine lv_iconst (v := 2) hx hb dL_law_379 (by decide) ?_
    refine lv_iadd hx hb dL_law_380 ?_
    refine fz_sx X hW hX hbl hbA (i + 2) (nI_add i 2) (by omega) hL dL_law_381 ?_
    refine fz_cVi X hW (fz_C.lwM (c_X4_look l g o w (xs (i + 1)) (xs (i + 2))) f a d v u q lf) lk_L_71 (ci := 4) (q0 := 36) rfl rfl rfl rfl ⟨(Nat.le_of_ble_eq_true rfl), (Nat.le_of_ble_eq_true rfl)⟩ hl rfl (Nat.le_of_ble_eq_true rfl) dL_law_382 (ce1 hcs (by omega) (by omega)) (fun H locs hW => ?_)
    generalize hw1 : (mloR w (xs (i + 1)) (xs (i + 2))).2 = w1 at hW t1 t3
    generalize hy1 : (mloR w (xs (i + 1)) (xs (i + 2))).1 = y1
    refine lv_istore (lv' := [(6, .int y1), (5, .int (cd1 E)), (0, .ref b0), (1, .ref f), (2, .ref (o 0)), (3, .ref q), (4, .int (nI i))]) hx hb dL_law_385 hl (by decide) rfl (fun ls hl => ?_)
    refine lv_aload_n hx hb dL_law_387 rfl (lv_at hl 4 rfl) ?_
    refine fz_cVi X hW (fz_C.lwM (c_X4_thrown l g o w1) f a d v u q lf) lk_L_60 (ci := 4) (q0 := 36) rfl rfl rfl rfl ⟨(Nat.le_of_ble_eq_true rfl), (Nat.le_of_ble_eq_true rfl)⟩ hl rfl (Nat.le_of_ble_eq_true rfl) dL_law_388 (ce1 hcs (by omega) (by omega)) (fun H locs hW => ?_)
    refine lv_iload hx hb dL_law_391 (lv_at hl 1 rfl) ?_
    refine lv_icmp_eq (tgt := 398) hx hb dL_law_393 (by decide) (fun c1 => ?_) (fun c1 => absurd t1 c1)
    refine lv_iload hx hb dL_law_398 (lv_at hl 1 rfl) ?_
    refine lv_if_ne (tgt := 415) hx hb dL_law_400 (by decide) (fun c2 => ?_) (fun c2 => absurd c2 (cd1_0 E))
    refine lv_goto (tgt := 1006) hx hb dL_law_415 (by decide) ?_
    refine W.widen (k := cells + 5) (n := slots + 30) (by omega) (by omega) ?_
    exact kk v u lf w1 _ _ _ t3 hW (lv_sub hl [2, 3, 4, 5, 6] rfl)
set_option maxHeartbeats 4000000 in
set_option maxRecDepth 100000 in
theorem lc_step {p : Program} {l : Launch} {e : Env} {s : State} {m : MethodId} {args : Array Value} {below : List Frame} {meth : Method} {c : Code} {H : Heap} {locs : List Loc} {cells slots : Nat} {Q : State → Prop} {rt : Option FieldType} {g : GG} {A : Nat → Prop} {ls : Array Slot} {b0 L i K f q : Nat} {xs : Nat → Int32} {a d o : Nat → Nat} {v u : SV} {lf : Nat → Int64} {w : MV} (X : fz_X p s m meth c RL cL_law 7 rt g A) (Y : fz_Y s A) (hN : va_Nc XIA XIO s) (hfl : l.stackTraces = false) (hX : va_X b0 L xs s s.heap) (hbl : b0 < s.heap.size) (hbA : ¬ A b0) (hL : L ≤ 3584) (hi : i + 7 ≤ L) (hB : Both v w K) (hK : K ≤ 1000) (hcs : cells + 5 ≤ 601024 ∧ slots + 30 ≤ 7293034) (hW : fz_W g A s (LW g f a d v u q lf o w) H locs) (hl : lv_has ls 7 (lo5 b0 f (o 0) q i))
    (kk : ∀ (v u : SV) (lf : Nat → Int64) (w : MV) (H : Heap) (locs : List Loc) (ls : Array Slot), Both v w (K + 1) → fz_W g A s (LW g f a d v u q lf o w) H locs → lv_has ls 7 (lo5 b0 f (o 0) q i) → W p l e room_1 s m args below meth c H locs (cells + 5) (slots + 30) Q (F0 m 1006 ls [])) : W p l e room_1 s m args below meth c H locs cells slots Q (F0 m 418 ls []) := by
  have hx := X.1
  have hb := X.2.1
  have hl : lv_has ls 7 [(0, .ref b0), (1, .ref f), (2, .ref (o 0)), (3, .ref q), (4, .int (nI i))] := hl
  have pr := pr_step hB hK (xs (i + 1))
  refine lv_aload_n hx hb dL_law_418 rfl (lv_at hl 1 rfl) ?_
  refine lv_aload_n hx hb dL_law_419 rfl (lv_at hl 0 rfl) ?_
  refine lv_iload hx hb dL_law_420 (lv_at hl 4 rfl) ?_
  refine lv_iconst (v := 1) hx hb dL_law_422 (by decide) ?_
  refine lv_iadd hx hb dL_law_423 ?_
  refine fz_sx X hW hX hbl hbA (i + 1) (nI_add i 1) (by omega) hL dL_law_424 ?_
  refine lv_aload_n hx hb dL_law_425 rfl (lv_at hl 3 rfl) ?_
  rcases hex : exG (xs (i + 1)) with _ | E
  · skip
    obtain ⟨t1, t2, t3⟩ := pr.1 hex
    refine fz_cH X Y hN hW (fz_CH.lw (h_step l hfl g f a d v u q lf (xs (i + 1)) (both_sok hB).1 (FW g f a d (psV v (xs (i + 1))) (u) ++ [LR g q (vp_updL lf 0 ((psA v (xs (i + 1))).1).toInt64)]) 0 (fun _ => ⟨rfl, rfl⟩) (fun E z => by rw [hex] at z; cases z)) o w) lh_72 rfl ⟨(Nat.le_of_ble_eq_true rfl), (Nat.le_of_ble_eq_true rfl)⟩ hl rfl (Nat.le_of_ble_eq_true rfl) dL_law_426 (ce1 hcs (by omega) (by omega)) (fun H locs hW => ?_)
    generalize hv1 : psV v (xs (i + 1)) = v1 at hW t3
    generalize hx1 : (psA v (xs (i + 1))).1 = x1 at hW t2
    refine lv_istore (lv' := [(5, .int 0), (0, .ref b0), (1, .ref f), (2, .ref (o 0)), (3, .ref q), (4, .int (nI i))]) hx hb dL_law_429 hl (by decide) rfl (fun ls hl => ?_)
    refine lv_aload_n hx hb dL_law_431 rfl (lv_at hl 3 rfl) ?_
    refine lv_aload_n hx hb dL_law_432 rfl (lv_at hl 1 rfl) ?_
    refine lv_iload hx hb dL_law_433 (lv_at hl 5 rfl) ?_
    refine lv_iconst (v := 1) hx hb dL_law_435 (by decide) ?_
    refine lv_iadd hx hb dL_law_436 ?_
    refine fz_sx X hW hX hbl hbA (i + 1) (nI_add i 1) (by omega) hL dL_law_437 ?_
    refine fz_cVi X hW (fz_C.lwM (c_X4_step l g o w (xs (i + 1)) (both_sok hB).2) f a d v1 u q (vp_updL lf 0 x1.toInt64)) lk_L_75 (ci := 4) (q0 := 36) rfl rfl rfl rfl ⟨(Nat.le_of_ble_eq_true rfl), (Nat.le_of_ble_eq_true rfl)⟩ hl rfl (Nat.le_of_ble_eq_true rfl) dL_law_438 (ce1 hcs (by omega) (by omega)) (fun H locs hW => ?_)
    generalize hw1 : (mstR w (xs (i + 1))).2 = w1 at hW t1 t3
    generalize hy1 : (mstR w (xs (i + 1))).1 = y1 at t2 ⊢
    refine lv_istore (lv' := [(6, .int y1), (5, .int 0), (0, .ref b0), (1, .ref f), (2, .ref (o 0)), (3, .ref q), (4, .int (nI i))]) hx hb dL_law_441 hl (by decide) rfl (fun ls hl => ?_)
    refine lv_aload_n hx hb dL_law_443 rfl (lv_at hl 4 rfl) ?_
    refine fz_cVi X hW (fz_C.lwM (c_X4_thrown l g o w1) f a d v1 u q (vp_updL lf 0 x1.toInt64)) lk_L_60 (ci := 4) (q0 := 36) rfl rfl rfl rfl ⟨(Nat.le_of_ble_eq_true rfl), (Nat.le_of_ble_eq_true rfl)⟩ hl rfl (Nat.le_of_ble_eq_true rfl) dL_law_444 (ce1 hcs (by omega) (by omega)) (fun H locs hW => ?_)
    refine lv_iload hx hb dL_law_447 (lv_at hl 1 rfl) ?_
    refine lv_icmp_eq (tgt := 454) hx hb dL_law_449 (by decide) (fun c1 => ?_) (fun c1 => absurd t1 c1)
    refine lv_iload hx hb dL_law_454 (lv_at hl 1 rfl) ?_
    refine lv_if_ne (tgt := 471) hx hb dL_law_456 (by decide) (fun c2 => absurd rfl c2) (fun c2 => ?_)
    refine lv_aload_n hx hb dL_law_459 rfl (lv_at hl 5 rfl) ?_
    refine lv_iconst (v := 0) hx hb dL_law_460 (by decide) ?_
    refine fz_jl X hW 35 0 rfl rfl (by omega) (by decide) dL_law_461 ?_
    refine lv_iload hx hb dL_law_462 (lv_at hl 0 rfl) ?_
    refine lv_i2l hx hb dL_law_464 rfl ?_
    refine W.lcmp hx hb dL_law_465 ?_
    refine lv_if_eq (tgt := 471) hx hb dL_law_466 (by decide) (fun c3 => ?_) (fun c3 => absurd (lg_same (by rw [up_0, t2])) c3)
    refine lv_goto (tgt := 1006) hx hb dL_law_471 (by decide) ?_
    refine W.widen (k := cells + 5) (n := slots + 30) (by omega) (by omega) ?_
    exact kk v1 u (vp_updL lf 0 x1.toInt64) w1 _ _ _ t3 hW (lv_sub hl [2, 3, 4, 5, 6] rfl)
  · skip
    obtain ⟨t1, t3⟩ := pr.2 E hex
    refine fz_cH X Y hN hW (fz_CH.lw (h_step l hfl g f a d v u q lf (xs (i + 1)) (both_sok hB).1 (FW g f a d v u ++ [LR g q lf]) (cd1 E) (fun z => by rw [hex] at z; cases z) (fun E2 z => by rw [hex] at z; cases z; exact ⟨rfl, rfl⟩)) o w) lh_72 rfl ⟨(Nat.le_of_ble_eq_true rfl), (Nat.le_of_ble_eq_true rfl)⟩ hl rfl (Nat.le_of_ble_eq_true rfl) dL_law_426 (ce1 hcs (by omega) (by omega)) (fun H locs hW => ?_)
    refine lv_istore (lv' := [(5, .int (cd1 E)), (0, .ref b0), (1, .ref f), (2, .ref (o 0)), (3, .ref q), (4, .int (nI i))]) hx hb dL_law_429 hl (by decide) rfl (fun ls hl => ?_)
    refine lv_aload_n hx hb dL_law_431 rfl (lv_at hl 3 rfl) ?_
    refine lv_aload_n hx hb dL_law_432 rfl (lv_at hl 1 rfl) ?_
    refine lv_iload hx hb dL_law_433 (lv_at hl 5 rfl) ?_
    refine lv_iconst (v := 1) hx hb dL_law_435 (by decide) ?_
    refine lv_iadd hx hb dL_law_436 ?_
    refine fz_sx X hW hX hbl hbA (i + 1) (nI_add i 1) (by omega) hL dL_law_437 ?_
    refine fz_cVi X hW (fz_C.lwM (c_X4_step l g o w (xs (i + 1)) (both_sok hB).2) f a d v u q lf) lk_L_75 (ci := 4) (q0 := 36) rfl rfl rfl rfl ⟨(Nat.le_of_ble_eq_true rfl), (Nat.le_of_ble_eq_true rfl)⟩ hl rfl (Nat.le_of_ble_eq_true rfl) dL_law_438 (ce1 hcs (by omega) (by omega)) (fun H locs hW => ?_)
    generalize hw1 : (mstR w (xs (i + 1))).2 = w1 at hW t1 t3
    generalize hy1 : (mstR w (xs (i + 1))).1 = y1
    refine lv_istore (lv' := [(6, .int y1), (5, .int (cd1 E)), (0, .ref b0), (1, .ref f), (2, .ref (o 0)), (3, .ref q), (4, .int (nI i))]) hx hb dL_law_441 hl (by decide) rfl (fun ls hl => ?_)
    refine lv_aload_n hx hb dL_law_443 rfl (lv_at hl 4 rfl) ?_
    refine fz_cVi X hW (fz_C.lwM (c_X4_thrown l g o w1) f a d v u q lf) lk_L_60 (ci := 4) (q0 := 36) rfl rfl rfl rfl ⟨(Nat.le_of_ble_eq_true rfl), (Nat.le_of_ble_eq_true rfl)⟩ hl rfl (Nat.le_of_ble_eq_true rfl) dL_law_444 (ce1 hcs (by omega) (by omega)) (fun H locs hW => ?_)
    refine lv_iload hx hb dL_law_447 (lv_at hl 1 rfl) ?_
    refine lv_icmp_eq (tgt := 454) hx hb dL_law_449 (by decide) (fun c1 => ?_) (fun c1 => absurd t1 c1)
    refine lv_iload hx hb dL_law_454 (lv_at hl 1 rfl) ?_
    refine lv_if_ne (tgt := 471) hx hb dL_law_456 (by decide) (fun c2 => ?_) (fun c2 => absurd c2 (cd1_0 E))
    refine lv_goto (tgt := 1006) hx hb dL_law_471 (by decide) ?_
    refine W.widen (k := cells + 5) (n := slots + 30) (by omega) (by omega) ?_
    exact kk v u lf w1 _ _ _ t3 hW (lv_sub hl [2, 3, 4, 5, 6] rfl)
set_option maxHeartbeats 4000000 in
set_option maxRecDepth 100000 in
theorem lc_near {p : Program} {l : Launch} {e : Env} {s : State} {m : MethodId} {args : Array Value} {below : List Frame} {meth : Method} {c : Code} {H : Heap} {locs : List Loc} {cells slots : Nat} {Q : State → Prop} {rt : Option FieldType} {g : GG} {A : Nat → Prop} {ls : Array Slot} {b0 L i K f q : Nat} {xs : Nat → Int32} {a d o : Nat → Nat} {v u : SV} {lf : Nat → Int64} {w : MV} (X : fz_X p s m meth c RL cL_law 7 rt g A) (Y : fz_Y s A) (hN : va_Nc XIA XIO s) (hfl : l.stackTraces = false) (hX : va_X b0 L xs s s.heap) (hbl : b0 < s.heap.size) (hbA : ¬ A b0) (hL : L ≤ 3584) (hi : i + 7 ≤ L) (hB : Both v w K) (hK : K ≤ 1000) (hcs : cells + 5 ≤ 601024 ∧ slots + 30 ≤ 7293034) (hW : fz_W g A s (LW g f a d v u q lf o w) H locs) (hl : lv_has ls 7 (lo5 b0 f (o 0) q i))
    (kk : ∀ (v u : SV) (lf : Nat → Int64) (w : MV) (H : Heap) (locs : List Loc) (ls : Array Slot), Both v w (K + 1) → fz_W g A s (LW g f a d v u q lf o w) H locs → lv_has ls 7 (lo5 b0 f (o 0) q i) → W p l e room_1 s m args below meth c H locs (cells + 5) (slots + 30) Q (F0 m 1006 ls [])) : W p l e room_1 s m args below meth c H locs cells slots Q (F0 m 487 ls []) := by
  have hx := X.1
  have hb := X.2.1
  have hl : lv_has ls 7 [(0, .ref b0), (1, .ref f), (2, .ref (o 0)), (3, .ref q), (4, .int (nI i))] := hl
  have pr := pr_ask hB hK (xs (i + 1)) (xs (i + 2)) hB.1.1
  refine lv_aload_n hx hb dL_law_487 rfl (lv_at hl 1 rfl) ?_
  refine lv_aload_n hx hb dL_law_488 rfl (lv_at hl 0 rfl) ?_
  refine lv_iload hx hb dL_law_489 (lv_at hl 4 rfl) ?_
  refine lv_iconst (v := 1) hx hb dL_law_491 (by decide) ?_
  refine lv_iadd hx hb dL_law_492 ?_
  refine fz_sx X hW hX hbl hbA (i + 1) (nI_add i 1) (by omega) hL dL_law_493 ?_
  refine lv_aload_n hx hb dL_law_494 rfl (lv_at hl 0 rfl) ?_
  refine lv_iload hx hb dL_law_495 (lv_at hl 4 rfl) ?_
  refine lv_iconst (v := 2) hx hb dL_law_497 (by decide) ?_
  refine lv_iadd hx hb dL_law_498 ?_
  refine fz_sx X hW hX hbl hbA (i + 2) (nI_add i 2) (by omega) hL dL_law_499 ?_
  refine lv_aload_n hx hb dL_law_500 rfl (lv_at hl 3 rfl) ?_
  rcases hex : exT (xs (i + 1)) (xs (i + 2)) with _ | E
  · skip
    obtain ⟨t1, t2, t3⟩ := pr.1 hex
    refine fz_cH X Y hN hW (fz_CH.lw (h_near l hfl g f a d v u q lf (xs (i + 1)) (xs (i + 2)) (FW g f a d (v) (u) ++ [LR g q (vp_updL lf 0 (v.near (tN (xs (i + 1)) (xs (i + 2)))).toInt64)]) 0 (fun _ => ⟨rfl, rfl⟩) (fun E z => by rw [hex] at z; cases z)) o w) lh_80 rfl ⟨(Nat.le_of_ble_eq_true rfl), (Nat.le_of_ble_eq_true rfl)⟩ hl rfl (Nat.le_of_ble_eq_true rfl) dL_law_501 (ce1 hcs (by omega) (by omega)) (fun H locs hW => ?_)
    generalize hx1 : v.near (tN (xs (i + 1)) (xs (i + 2))) = x1 at hW t2
    refine lv_istore (lv' := [(5, .int 0), (0, .ref b0), (1, .ref f), (2, .ref (o 0)), (3, .ref q), (4, .int (nI i))]) hx hb dL_law_504 hl (by decide) rfl (fun ls hl => ?_)
    refine lv_aload_n hx hb dL_law_506 rfl (lv_at hl 3 rfl) ?_
    refine lv_aload_n hx hb dL_law_507 rfl (lv_at hl 1 rfl) ?_
    refine lv_iload hx hb dL_law_508 (lv_at hl 5 rfl) ?_
    refine lv_iconst (v := 1) hx hb dL_law_510 (by decide) ?_
    refine lv_iadd hx hb dL_law_511 ?_
    refine fz_sx X hW hX hbl hbA (i + 1) (nI_add i 1) (by omega) hL dL_law_512 ?_
    refine lv_aload_n hx hb dL_law_513 rfl (lv_at hl 1 rfl) ?_
    refine lv_iload hx hb dL_law_514 (lv_at hl 5 rfl) ?_
    refine lv_iconst (v := 2) hx hb dL_law_516 (by decide) ?_
    refine lv_iadd hx hb dL_law_517 ?_
    refine fz_sx X hW hX hbl hbA (i + 2) (nI_add i 2) (by omega) hL dL_law_518 ?_
    refine fz_cVi X hW (fz_C.lwM (c_X4_near l g o w (xs (i + 1)) (xs (i + 2))) f a d v u q (vp_updL lf 0 x1.toInt64)) lk_L_82 (ci := 4) (q0 := 36) rfl rfl rfl rfl ⟨(Nat.le_of_ble_eq_true rfl), (Nat.le_of_ble_eq_true rfl)⟩ hl rfl (Nat.le_of_ble_eq_true rfl) dL_law_519 (ce1 hcs (by omega) (by omega)) (fun H locs hW => ?_)
    generalize hw1 : maV w (xs (i + 1)) (xs (i + 2)) = w1 at hW t1 t3
    generalize hy1 : maR (xs (i + 1)) (xs (i + 2)) w.near = y1 at t2 ⊢
    refine lv_istore (lv' := [(6, .int y1), (5, .int 0), (0, .ref b0), (1, .ref f), (2, .ref (o 0)), (3, .ref q), (4, .int (nI i))]) hx hb dL_law_522 hl (by decide) rfl (fun ls hl => ?_)
    refine lv_aload_n hx hb dL_law_524 rfl (lv_at hl 4 rfl) ?_
    refine fz_cVi X hW (fz_C.lwM (c_X4_thrown l g o w1) f a d v u q (vp_updL lf 0 x1.toInt64)) lk_L_60 (ci := 4) (q0 := 36) rfl rfl rfl rfl ⟨(Nat.le_of_ble_eq_true rfl), (Nat.le_of_ble_eq_true rfl)⟩ hl rfl (Nat.le_of_ble_eq_true rfl) dL_law_525 (ce1 hcs (by omega) (by omega)) (fun H locs hW => ?_)
    refine lv_iload hx hb dL_law_528 (lv_at hl 1 rfl) ?_
    refine lv_icmp_eq (tgt := 535) hx hb dL_law_530 (by decide) (fun c1 => ?_) (fun c1 => absurd t1 c1)
    refine lv_iload hx hb dL_law_535 (lv_at hl 1 rfl) ?_
    refine lv_if_ne (tgt := 552) hx hb dL_law_537 (by decide) (fun c2 => absurd rfl c2) (fun c2 => ?_)
    refine lv_aload_n hx hb dL_law_540 rfl (lv_at hl 5 rfl) ?_
    refine lv_iconst (v := 0) hx hb dL_law_541 (by decide) ?_
    refine fz_jl X hW 35 0 rfl rfl (by omega) (by decide) dL_law_542 ?_
    refine lv_iload hx hb dL_law_543 (lv_at hl 0 rfl) ?_
    refine lv_i2l hx hb dL_law_545 rfl ?_
    refine W.lcmp hx hb dL_law_546 ?_
    refine lv_if_eq (tgt := 552) hx hb dL_law_547 (by decide) (fun c3 => ?_) (fun c3 => absurd (lg_same (by rw [up_0, t2])) c3)
    refine lv_goto (tgt := 1006) hx hb dL_law_552 (by decide) ?_
    refine W.widen (k := cells + 5) (n := slots + 30) (by omega) (by omega) ?_
    exact kk v u (vp_updL lf 0 x1.toInt64) w1 _ _ _ t3 hW (lv_sub hl [2, 3, 4, 5, 6] rfl)
  · skip
    obtain ⟨t1, t3⟩ := pr.2 E hex
    refine fz_cH X Y hN hW (fz_CH.lw (h_near l hfl g f a d v u q lf (xs (i + 1)) (xs (i + 2)) (FW g f a d v u ++ [LR g q lf]) (cd1 E) (fun z => by rw [hex] at z; cases z) (fun E2 z => by rw [hex] at z; cases z; exact ⟨rfl, rfl⟩)) o w) lh_80 rfl ⟨(Nat.le_of_ble_eq_true rfl), (Nat.le_of_ble_eq_true rfl)⟩ hl rfl (Nat.le_of_ble_eq_true rfl) dL_law_501 (ce1 hcs (by omega) (by omega)) (fun H locs hW => ?_)
    refine lv_istore (lv' := [(5, .int (cd1 E)), (0, .ref b0), (1, .ref f), (2, .ref (o 0)), (3, .ref q), (4, .int (nI i))]) hx hb dL_law_504 hl (by decide) rfl (fun ls hl => ?_)
    refine lv_aload_n hx hb dL_law_506 rfl (lv_at hl 3 rfl) ?_
    refine lv_aload_n hx hb dL_law_507 rfl (lv_at hl 1 rfl) ?_
    refine lv_iload hx hb dL_law_508 (lv_at hl 5 rfl) ?_
    refine lv_iconst (v := 1) hx hb dL_law_510 (by decide) ?_
    refine lv_iadd hx hb dL_law_511 ?_
    refine fz_sx X hW hX hbl hbA (i + 1) (nI_add i 1) (by omega) hL dL_law_512 ?_
    refine lv_aload_n hx hb dL_law_513 rfl (lv_at hl 1 rfl) ?_
    refine lv_iload hx hb dL_law_514 (lv_at hl 5 rfl) ?_
    refine lv_iconst (v := 2) hx hb dL_law_516 (by decide) ?_
    refine lv_iadd hx hb dL_law_517 ?_
    refine fz_sx X hW hX hbl hbA (i + 2) (nI_add i 2) (by omega) hL dL_law_518 ?_
    refine fz_cVi X hW (fz_C.lwM (c_X4_near l g o w (xs (i + 1)) (xs (i + 2))) f a d v u q lf) lk_L_82 (ci := 4) (q0 := 36) rfl rfl rfl rfl ⟨(Nat.le_of_ble_eq_true rfl), (Nat.le_of_ble_eq_true rfl)⟩ hl rfl (Nat.le_of_ble_eq_true rfl) dL_law_519 (ce1 hcs (by omega) (by omega)) (fun H locs hW => ?_)
    generalize hw1 : maV w (xs (i + 1)) (xs (i + 2)) = w1 at hW t1 t3
    generalize hy1 : maR (xs (i + 1)) (xs (i + 2)) w.near = y1
    refine lv_istore (lv' := [(6, .int y1), (5, .int (cd1 E)), (0, .ref b0), (1, .ref f), (2, .ref (o 0)), (3, .ref q), (4, .int (nI i))]) hx hb dL_law_522 hl (by decide) rfl (fun ls hl => ?_)
    refine lv_aload_n hx hb dL_law_524 rfl (lv_at hl 4 rfl) ?_
    refine fz_cVi X hW (fz_C.lwM (c_X4_thrown l g o w1) f a d v u q lf) lk_L_60 (ci := 4) (q0 := 36) rfl rfl rfl rfl ⟨(Nat.le_of_ble_eq_true rfl), (Nat.le_of_ble_eq_true rfl)⟩ hl rfl (Nat.le_of_ble_eq_true rfl) dL_law_525 (ce1 hcs (by omega) (by omega)) (fun H locs hW => ?_)
    refine lv_iload hx hb dL_law_528 (lv_at hl 1 rfl) ?_
    refine lv_icmp_eq (tgt := 535) hx hb dL_law_530 (by decide) (fun c1 => ?_) (fun c1 => absurd t1 c1)
    refine lv_iload hx hb dL_law_535 (lv_at hl 1 rfl) ?_
    refine lv_if_ne (tgt := 552) hx hb dL_law_537 (by decide) (fun c2 => ?_) (fun c2 => absurd c2 (cd1_0 E))
    refine lv_goto (tgt := 1006) hx hb dL_law_552 (by decide) ?_
    refine W.widen (k := cells + 5) (n := slots + 30) (by omega) (by omega) ?_
    exact kk v u lf w1 _ _ _ t3 hW (lv_sub hl [2, 3, 4, 5, 6] rfl)
