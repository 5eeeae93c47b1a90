set_option maxHeartbeats 8000000 in
set_option maxRecDepth 100000 in
theorem la_move {p : Program} {l : Launch} {e : Env} {s : State} {m : MethodId} {args : Array Value} {below : List Frame} {meth : Method} {c : Code} {H : Heap} {locs : List Loc} {cells slots : Nat} {Q : State → Prop} {rt : Option FieldType} {g : GG} {A : Nat → Prop} {ls : Array Slot} {b0 L K f : Nat} {xs : Nat → Int32} {a b r : Nat → Nat} {v u : SV} {x : LV} {T kd lf tp wd hg : Nat} {xv yv : Int32} (X : fz_X p s m meth c RL cL_law 20 rt g A) (Y : fz_Y s A) (hN : va_Nc XIA XIO s) (hfl : l.stackTraces = false) (hcs : cells + 20 ≤ 600074 ∧ slots + 500 ≤ 7301550) (hB : Bo v x T) (hT : T + 1 < 2 ^ 20) (hlf : lf < 8) (htp : tp < 6) (hwd : 1 ≤ wd) (hhg : 1 ≤ hg) (h8 : lf + wd ≤ 8) (h6 : tp + hg ≤ 6) (hW : fz_W g A s (LW g f a b v u r x) H locs) (hl : lv_has ls 20 (loP b0 f r K xv yv kd lf tp wd hg)) (kk : ∀ (v : SV) (x : LV) (H : Heap) (locs : List Loc) (ls : Array Slot), Bo v x (T + 1) → fz_W g A s (LW g f a b v u r x) H locs → lv_has ls 20 (loB b0 f r K) → W p l e room_1 s m args below meth c H locs (cells + 6) (slots + 60) Q (F0 m 754 ls [])) (k2 : ∀ (v : SV) (x : LV) (H : Heap) (locs : List Loc) (ls : Array Slot), Bo v x (T + 1) → fz_W g A s (LW g f a b v u r x) H locs → lv_has ls 20 (loB b0 f r K) → W p l e room_1 s m args below meth c H locs (cells + 6) (slots + 60) Q (F0 m 773 ls [])) : W p l e room_1 s m args below meth c H locs cells slots Q (F0 m 375 ls []) := by
  have hx := X.1
  have hb := X.2.1
  have hl : lv_has ls 20 [(0, .ref b0), (1, .ref f), (2, .ref (r 0)), (3, .ref (r 1)), (4, .ref (r 2)), (5, .ref (r 3)), (6, .ref (r 4)), (7, .ref (r 5)), (8, .ref (r 6)), (9, .int (nI K)), (10, .int xv), (11, .int yv), (12, .int (nI kd)), (13, .int (nI lf)), (14, .int (nI tp)), (15, .int (nI wd)), (16, .int (nI hg))] := hl
  have hW : fz_W g A s (LW g f a b v u r x) H locs := hW
  have w4 : v.wm ≤ 4 := hB.2.1.1
  have eg2 : x.gg 2 = nI v.wm := hB.1.2.2.2.2.2.2.2.2.2.1
  refine lv_aload hx hb dL_law_375 (lv_at hl 8 rfl) ?_
  refine lv_iconst (v := 2) hx hb dL_law_377 (by decide) ?_
  refine fz_il X hW 41 (2) rfl rfl (by omega) (by decide) dL_law_378 ?_
  refine lv_iconst (v := 4) hx hb dL_law_379 (by decide) ?_
  have join395 : ∀ (bb : Nat), bb = (if v.wm < 4 then 6 * v.wm else 24) → bb ≤ 24 → ∀ (ls : Array Slot), lv_has ls 20 [(0, .ref b0), (1, .ref f), (2, .ref (r 0)), (3, .ref (r 1)), (4, .ref (r 2)), (5, .ref (r 3)), (6, .ref (r 4)), (7, .ref (r 5)), (8, .ref (r 6)), (9, .int (nI K)), (10, .int xv), (11, .int yv), (12, .int (nI kd)), (13, .int (nI lf)), (14, .int (nI tp)), (15, .int (nI wd)), (16, .int (nI hg))] → W p l e room_1 s m args below meth c H locs cells slots Q (F0 m 395 ls [.int (nI bb)]) := by
    intro bb hbb hb24 ls hl
    refine lv_istore (lv' := [(17, .int (nI bb)), (0, .ref b0), (1, .ref f), (2, .ref (r 0)), (3, .ref (r 1)), (4, .ref (r 2)), (5, .ref (r 3)), (6, .ref (r 4)), (7, .ref (r 5)), (8, .ref (r 6)), (9, .int (nI K)), (10, .int xv), (11, .int yv), (12, .int (nI kd)), (13, .int (nI lf)), (14, .int (nI tp)), (15, .int (nI wd)), (16, .int (nI hg))]) hx hb dL_law_395 hl (by decide) rfl (fun ls hl => ?_)
    refine lv_aload hx hb dL_law_397 (lv_at hl 7 rfl) ?_
    refine lv_iload hx hb dL_law_399 (lv_at hl 0 rfl) ?_
    refine lv_iload hx hb dL_law_401 (lv_at hl 14 rfl) ?_
    refine fz_is X hW 39 (bb) rfl rfl (by omega) (by decide) dL_law_403 (fun H locs hW => ?_)
    refine lv_aload hx hb dL_law_404 (lv_at hl 7 rfl) ?_
    refine lv_iload hx hb dL_law_406 (lv_at hl 0 rfl) ?_
    refine lv_iconst (v := 1) hx hb dL_law_408 (by decide) ?_
    refine lv_iadd hx hb dL_law_409 ?_
    refine lv_iload hx hb dL_law_410 (lv_at hl 15 rfl) ?_
    refine fz_is X hW 39 (bb + 1) rfl (nI_add bb 1) (by omega) (by decide) dL_law_412 (fun H locs hW => ?_)
    refine lv_aload hx hb dL_law_413 (lv_at hl 7 rfl) ?_
    refine lv_iload hx hb dL_law_415 (lv_at hl 0 rfl) ?_
    refine lv_iconst (v := 2) hx hb dL_law_417 (by decide) ?_
    refine lv_iadd hx hb dL_law_418 ?_
    refine lv_iload hx hb dL_law_419 (lv_at hl 16 rfl) ?_
    refine fz_is X hW 39 (bb + 2) rfl (nI_add bb 2) (by omega) (by decide) dL_law_421 (fun H locs hW => ?_)
    refine lv_aload hx hb dL_law_422 (lv_at hl 7 rfl) ?_
    refine lv_iload hx hb dL_law_424 (lv_at hl 0 rfl) ?_
    refine lv_iconst (v := 3) hx hb dL_law_426 (by decide) ?_
    refine lv_iadd hx hb dL_law_427 ?_
    refine lv_iload hx hb dL_law_428 (lv_at hl 17 rfl) ?_
    refine fz_is X hW 39 (bb + 3) rfl (nI_add bb 3) (by omega) (by decide) dL_law_430 (fun H locs hW => ?_)
    refine lv_aload hx hb dL_law_431 (lv_at hl 7 rfl) ?_
    refine lv_iload hx hb dL_law_433 (lv_at hl 0 rfl) ?_
    refine lv_iconst (v := 4) hx hb dL_law_435 (by decide) ?_
    refine lv_iadd hx hb dL_law_436 ?_
    refine lv_iload hx hb dL_law_437 (lv_at hl 11 rfl) ?_
    refine lv_iconst (v := 5) hx hb dL_law_439 (by decide) ?_
    refine lv_ishr hx hb dL_law_440 ?_
    refine lv_bipush (v := 9) hx hb dL_law_441 (by decide) ?_
    refine lv_iload hx hb dL_law_443 (lv_at hl 16 rfl) ?_
    refine lv_isub hx hb dL_law_445 ?_
    refine fz_top (x' := nI (9 - wd)) (pk_sub (a := 9) (by omega)) ?_
    refine fz_cSi X hW (c_L_low l g (xv >>> ((5 : Int32) &&& 31)) (nI (9 - wd)) (nI_ne0 (by omega) (by omega)) _) lk_L_89 rfl ⟨Nat.le_of_ble_eq_true rfl, Nat.le_of_ble_eq_true rfl⟩ hl rfl (Nat.le_of_ble_eq_true rfl) dL_law_446 (ce0 hcs) (fun H locs hW => ?_)
    obtain ⟨tx, htx, etx⟩ := low_is (xv >>> ((5 : Int32) &&& 31)) (n := 9 - wd) (by omega) (by omega)
    refine fz_top (x' := nI tx) etx ?_
    refine fz_is X hW 39 (bb + 4) rfl (nI_add bb 4) (by omega) (by decide) dL_law_449 (fun H locs hW => ?_)
    refine lv_aload hx hb dL_law_450 (lv_at hl 7 rfl) ?_
    refine lv_iload hx hb dL_law_452 (lv_at hl 0 rfl) ?_
    refine lv_iconst (v := 5) hx hb dL_law_454 (by decide) ?_
    refine lv_iadd hx hb dL_law_455 ?_
    refine lv_iload hx hb dL_law_456 (lv_at hl 11 rfl) ?_
    refine lv_bipush (v := 8) hx hb dL_law_458 (by decide) ?_
    refine lv_ishr hx hb dL_law_460 ?_
    refine lv_bipush (v := 7) hx hb dL_law_461 (by decide) ?_
    refine lv_iload hx hb dL_law_463 (lv_at hl 17 rfl) ?_
    refine lv_isub hx hb dL_law_465 ?_
    refine fz_top (x' := nI (7 - hg)) (pk_sub (a := 7) (by omega)) ?_
    refine fz_cSi X hW (c_L_low l g (xv >>> ((8 : Int32) &&& 31)) (nI (7 - hg)) (nI_ne0 (by omega) (by omega)) _) lk_L_89 rfl ⟨Nat.le_of_ble_eq_true rfl, Nat.le_of_ble_eq_true rfl⟩ hl rfl (Nat.le_of_ble_eq_true rfl) dL_law_466 (ce0 hcs) (fun H locs hW => ?_)
    obtain ⟨ty, hty, ety⟩ := low_is (xv >>> ((8 : Int32) &&& 31)) (n := 7 - hg) (by omega) (by omega)
    refine fz_top (x' := nI ty) ety ?_
    refine fz_is X hW 39 (bb + 5) rfl (nI_add bb 5) (by omega) (by decide) dL_law_469 (fun H locs hW => ?_)
    have hW : fz_W g A s (LW g f a b v u r (x.wS (w6 x.w bb (mkM lf tp wd hg tx ty)))) H locs := hW
    have hm : MOK (mkM lf tp wd hg tx ty) := ⟨h8, h6, show tx + wd ≤ 8 by omega, show ty + hg ≤ 6 by omega⟩
    have hm1 : 1 ≤ (mkM lf tp wd hg tx ty) 2 := hwd
    have hBw : Rel v v.us (x.wS (w6 x.w bb (mkM lf tp wd hg tx ty))) := rel_w hB.1 (mkM lf tp wd hg tx ty) (by rw [hbb]; split <;> omega)
    refine lv_aload hx hb dL_law_470 (lv_at hl 7 rfl) ?_
    refine lv_iload hx hb dL_law_472 (lv_at hl 0 rfl) ?_
    refine lv_iconst (v := 4) hx hb dL_law_474 (by decide) ?_
    refine lv_iadd hx hb dL_law_475 ?_
    refine fz_il X hW 39 (bb + 4) rfl (nI_add bb 4) (by omega) (by decide) dL_law_476 ?_
    refine fz_top (x' := nI tx) (w6_in x.w bb (mkM lf tp wd hg tx ty) 4 (by omega)) ?_
    refine lv_iload hx hb dL_law_477 (lv_at hl 14 rfl) ?_
    have join509 : ∀ (u9 : Unit), ¬ (tx = lf ∧ ty = tp) → ∀ (ls : Array Slot), lv_has ls 20 [(17, .int (nI bb)), (0, .ref b0), (1, .ref f), (2, .ref (r 0)), (3, .ref (r 1)), (4, .ref (r 2)), (5, .ref (r 3)), (6, .ref (r 4)), (7, .ref (r 5)), (8, .ref (r 6)), (9, .int (nI K)), (10, .int xv), (11, .int yv), (12, .int (nI kd)), (13, .int (nI lf)), (14, .int (nI tp)), (15, .int (nI wd)), (16, .int (nI hg))] → W p l e room_1 s m args below meth c H locs cells slots Q (F0 m 509 ls []) := by
      intro u9 hne ls hl
      refine lv_bipush (v := 48) hx hb dL_law_509 (by decide) ?_
      refine fz_ni X hW (atype := .int) (ty := .int) rfl ar_i 0 rfl (fun _ _ h => h) (N' := 48) (a0 := (48, .inl (fun _ => 0))) (fun _ => rfl) (by decide) rfl (Nat.le_of_ble_eq_true rfl) (ce hcs (i := 1) (j := 48) (by omega) (by omega)).1 (ce hcs (i := 1) (j := 48) (by omega) (by omega)).2 dL_law_511 (fun q H hW => ?_)
      have hW : fz_W g A s (LO g f a b v u r (x.wS (w6 x.w bb (mkM lf tp wd hg tx ty))) q (fun _ => 0)) H _ := hW
      refine lv_astore (lv' := [(18, .ref q), (17, .int (nI bb)), (0, .ref b0), (1, .ref f), (2, .ref (r 0)), (3, .ref (r 1)), (4, .ref (r 2)), (5, .ref (r 3)), (6, .ref (r 4)), (7, .ref (r 5)), (8, .ref (r 6)), (9, .int (nI K)), (10, .int xv), (11, .int yv), (12, .int (nI kd)), (13, .int (nI lf)), (14, .int (nI tp)), (15, .int (nI wd)), (16, .int (nI hg))]) hx hb dL_law_513 hl (by decide) rfl (fun ls hl => ?_)
      refine lv_iconst (v := 0) hx hb dL_law_515 (by decide) ?_
      refine lv_istore (lv' := [(19, .int 0), (18, .ref q), (17, .int (nI bb)), (0, .ref b0), (1, .ref f), (2, .ref (r 0)), (3, .ref (r 1)), (4, .ref (r 2)), (5, .ref (r 3)), (6, .ref (r 4)), (7, .ref (r 5)), (8, .ref (r 6)), (9, .int (nI K)), (10, .int xv), (11, .int yv), (12, .int (nI kd)), (13, .int (nI lf)), (14, .int (nI tp)), (15, .int (nI wd)), (16, .int (nI hg))]) hx hb dL_law_516 hl (by decide) rfl (fun ls hl => ?_)
      have loop518 : ∀ (k : Nat) (i : Nat), i ≤ 48 → 48 < i + k → ∀ (H : Heap) (locs : List Loc) (ls : Array Slot), fz_W g A s (LO g f a b v u r (x.wS (w6 x.w bb (mkM lf tp wd hg tx ty))) q (fz_to x.n (fun _ => 0) i)) H locs → lv_has ls 20 [(0, .ref b0), (1, .ref f), (2, .ref (r 0)), (3, .ref (r 1)), (4, .ref (r 2)), (5, .ref (r 3)), (6, .ref (r 4)), (7, .ref (r 5)), (8, .ref (r 6)), (9, .int (nI K)), (10, .int xv), (11, .int yv), (12, .int (nI kd)), (13, .int (nI lf)), (14, .int (nI tp)), (15, .int (nI wd)), (16, .int (nI hg)), (17, .int (nI bb)), (18, .ref q), (19, .int (nI i))] → W p l e room_1 s m args below meth c H locs (cells + 1) (slots + 48) Q (F0 m 518 ls []) := by
        intro k
        induction k with
        | zero =>
          intro i hi hk
          omega
        | succ k ih518 =>
          intro i hi hki H locs ls hW hl
          refine lv_iload hx hb dL_law_518 (lv_at hl 19 rfl) ?_
          refine lv_bipush (v := 48) hx hb dL_law_520 (by decide) ?_
          refine lv_icmp_ge (tgt := 540) hx hb dL_law_522 (by decide) (fun c522 => ?_) (fun c522 => ?_)
          · skip
            have h522 : 48 ≤ i := (nI_leI (a := 48) (b := i) (by omega) (by omega)).mp c522
            have e522 : i = 48 := by omega
            have hl := lv_sub hl [0, 1, 2, 3, 4, 5, 6, 7, 8, 9, 10, 11, 12, 13, 14, 15, 16, 17, 18] rfl
            have hl : lv_has ls 20 [(0, .ref b0), (1, .ref f), (2, .ref (r 0)), (3, .ref (r 1)), (4, .ref (r 2)), (5, .ref (r 3)), (6, .ref (r 4)), (7, .ref (r 5)), (8, .ref (r 6)), (9, .int (nI K)), (10, .int xv), (11, .int yv), (12, .int (nI kd)), (13, .int (nI lf)), (14, .int (nI tp)), (15, .int (nI wd)), (16, .int (nI hg)), (17, .int (nI bb)), (18, .ref q)] := hl
            have hW : fz_W g A s (LO g f a b v u r (x.wS (w6 x.w bb (mkM lf tp wd hg tx ty))) q (fz_to x.n (fun _ => 0) 48)) H locs := fz_cast (by rw [e522]) hW
            refine lv_aload hx hb dL_law_540 (lv_at hl 18 rfl) ?_
            refine lv_aload hx hb dL_law_542 (lv_at hl 6 rfl) ?_
            refine lv_iload hx hb dL_law_544 (lv_at hl 17 rfl) ?_
            refine fz_cSv X hW (fz_C.ls (x := (x.wS (w6 x.w bb (mkM lf tp wd hg tx ty)))) (c_L_shift l g q (r 4) (fz_to x.n (fun _ => 0) 48) (w6 x.w bb (mkM lf tp wd hg tx ty)) bb (mkM lf tp wd hg tx ty) (by omega) (w6_in x.w bb (mkM lf tp wd hg tx ty)) hm hm1) f a b v u) lk_L_16 rfl ⟨Nat.le_of_ble_eq_true rfl, Nat.le_of_ble_eq_true rfl⟩ hl rfl (Nat.le_of_ble_eq_true rfl) dL_law_546 (ce hcs (by omega) (by omega)) (fun H locs hW => ?_)
            have hbf : ∀ t, t < 48 → (shN (mkM lf tp wd hg tx ty) (fz_to x.n (fun _ => 0) 48) ((mkM lf tp wd hg tx ty) 2 * (mkM lf tp wd hg tx ty) 3)) t = apF (mkM lf tp wd hg tx ty) v.near v.before t := shN_ap hm hm1 (fz_to x.n (fun _ => 0) 48) v.near v.before (fun t ht => (fz_to_lt (f := x.n) (h := fun _ => 0) ht).trans (hB.1.1 t ht))
            generalize (shN (mkM lf tp wd hg tx ty) (fz_to x.n (fun _ => 0) 48) ((mkM lf tp wd hg tx ty) 2 * (mkM lf tp wd hg tx ty) 3)) = BEF9 at hW hbf
            refine lv_iconst (v := 0) hx hb dL_law_549 (by decide) ?_
            refine lv_istore (lv' := [(19, .int 0), (0, .ref b0), (1, .ref f), (2, .ref (r 0)), (3, .ref (r 1)), (4, .ref (r 2)), (5, .ref (r 3)), (6, .ref (r 4)), (7, .ref (r 5)), (8, .ref (r 6)), (9, .int (nI K)), (10, .int xv), (11, .int yv), (12, .int (nI kd)), (13, .int (nI lf)), (14, .int (nI tp)), (15, .int (nI wd)), (16, .int (nI hg)), (17, .int (nI bb)), (18, .ref q)]) hx hb dL_law_550 hl (by decide) rfl (fun ls hl => ?_)
            have loop552 : ∀ (k : Nat) (i : Nat), i ≤ 48 → 48 < i + k → ∀ (H : Heap) (locs : List Loc) (ls : Array Slot), fz_W g A s (LO g f a b v u r (dmv (x.wS (w6 x.w bb (mkM lf tp wd hg tx ty))) BEF9 i) q BEF9) H locs → lv_has ls 20 [(0, .ref b0), (1, .ref f), (2, .ref (r 0)), (3, .ref (r 1)), (4, .ref (r 2)), (5, .ref (r 3)), (6, .ref (r 4)), (7, .ref (r 5)), (8, .ref (r 6)), (9, .int (nI K)), (10, .int xv), (11, .int yv), (12, .int (nI kd)), (13, .int (nI lf)), (14, .int (nI tp)), (15, .int (nI wd)), (16, .int (nI hg)), (17, .int (nI bb)), (18, .ref q), (19, .int (nI i))] → W p l e room_1 s m args below meth c H locs (cells + 1) (slots + 48) Q (F0 m 552 ls []) := by
              intro k
              induction k with
              | zero =>
                intro i hi hk
                omega
              | succ k ih552 =>
                intro i hi hki H locs ls hW hl
                refine lv_iload hx hb dL_law_552 (lv_at hl 19 rfl) ?_
                refine lv_bipush (v := 48) hx hb dL_law_554 (by decide) ?_
                refine lv_icmp_ge (tgt := 583) hx hb dL_law_556 (by decide) (fun c556 => ?_) (fun c556 => ?_)
                · skip
                  have h556 : 48 ≤ i := (nI_leI (a := 48) (b := i) (by omega) (by omega)).mp c556
                  have e556 : i = 48 := by omega
                  have hl := lv_sub hl [0, 1, 2, 3, 4, 5, 6, 7, 8, 9, 10, 11, 12, 13, 14, 15, 16, 17, 18] rfl
                  have hl : lv_has ls 20 [(0, .ref b0), (1, .ref f), (2, .ref (r 0)), (3, .ref (r 1)), (4, .ref (r 2)), (5, .ref (r 3)), (6, .ref (r 4)), (7, .ref (r 5)), (8, .ref (r 6)), (9, .int (nI K)), (10, .int xv), (11, .int yv), (12, .int (nI kd)), (13, .int (nI lf)), (14, .int (nI tp)), (15, .int (nI wd)), (16, .int (nI hg)), (17, .int (nI bb)), (18, .ref q)] := hl
                  have hW : fz_W g A s (LO g f a b v u r (dmv (x.wS (w6 x.w bb (mkM lf tp wd hg tx ty))) BEF9 48) q BEF9) H locs := fz_cast (by rw [e556]) hW
                  obtain ⟨dk1, dk2, dk3, dk4⟩ := dmv_keep (x.wS (w6 x.w bb (mkM lf tp wd hg tx ty))) BEF9 48
                  have hD9 : ∀ z9, mvL x bb (mkM lf tp wd hg tx ty) BEF9 z9 = (dmv (x.wS (w6 x.w bb (mkM lf tp wd hg tx ty))) BEF9 48).ggS (upd x.gg 2 (x.gg 2 + z9)) := fun _ => rfl
                  generalize dmv (x.wS (w6 x.w bb (mkM lf tp wd hg tx ty))) BEF9 48 = D9 at hW dk1 dk2 dk3 dk4 hD9
                  have dg2 : D9.gg 2 = nI v.wm := by
                    rw [dk4]
                    exact eg2
                  refine lv_aload hx hb dL_law_583 (lv_at hl 8 rfl) ?_
                  refine lv_iconst (v := 2) hx hb dL_law_585 (by decide) ?_
                  refine lv_dup2_11 hx hb dL_law_586 rfl rfl ?_
                  refine fz_il X hW 41 (2) rfl rfl (by omega) (by decide) dL_law_587 ?_
                  refine lv_aload hx hb dL_law_588 (lv_at hl 8 rfl) ?_
                  refine lv_iconst (v := 2) hx hb dL_law_590 (by decide) ?_
                  refine fz_il X hW 41 (2) rfl rfl (by omega) (by decide) dL_law_591 ?_
                  refine lv_iconst (v := 4) hx hb dL_law_592 (by decide) ?_
                  have join601 : ∀ (z9 : Int32), z9 = (if v.wm < 4 then 1 else 0) → ∀ (ls : Array Slot), lv_has ls 20 [(0, .ref b0), (1, .ref f), (2, .ref (r 0)), (3, .ref (r 1)), (4, .ref (r 2)), (5, .ref (r 3)), (6, .ref (r 4)), (7, .ref (r 5)), (8, .ref (r 6)), (9, .int (nI K)), (10, .int xv), (11, .int yv), (12, .int (nI kd)), (13, .int (nI lf)), (14, .int (nI tp)), (15, .int (nI wd)), (16, .int (nI hg)), (17, .int (nI bb)), (18, .ref q)] → W p l e room_1 s m args below meth c H locs (cells + 1) (slots + 48) Q (F0 m 601 ls [.int z9, .int (D9.gg 2), .int 2, .ref (r 6)]) := by
                    intro z9 hz9 ls hl
                    refine lv_iadd hx hb dL_law_601 ?_
                    refine fz_is X hW 41 (2) rfl rfl (by omega) (by decide) dL_law_602 (fun H locs hW => ?_)
                    have dk4' : D9.gg = x.gg := dk4
                    have hW : fz_W g A s (LO g f a b v u r (mvL x bb (mkM lf tp wd hg tx ty) BEF9 z9) q BEF9) H locs := fz_cast (show _ = LO g f a b v u r (mvL x bb (mkM lf tp wd hg tx ty) BEF9 z9) q BEF9 by rw [hD9, ← dk4']; first | done | rfl) hW
                    have hrM : Rel (shV v (mkM lf tp wd hg tx ty)) v.us (mvL x bb (mkM lf tp wd hg tx ty) BEF9 z9) := by
                      have k := rel_move (m := (mkM lf tp wd hg tx ty)) hB.1 hB.2 hbf
                      rw [← hbb, ← hz9] at k
                      exact k
                    have hiM : Inv (shV v (mkM lf tp wd hg tx ty)) T := inv_move hB.2 hm hm1
                    have ew4 : (mvL x bb (mkM lf tp wd hg tx ty) BEF9 z9).w (bb + 4) = nI tx := by
                      rw [hD9]
                      show D9.w (bb + 4) = nI tx
                      rw [dk2]
                      exact w6_in x.w bb (mkM lf tp wd hg tx ty) 4 (by omega)
                    have ew5 : (mvL x bb (mkM lf tp wd hg tx ty) BEF9 z9).w (bb + 5) = nI ty := by
                      rw [hD9]
                      show D9.w (bb + 5) = nI ty
                      rw [dk2]
                      exact w6_in x.w bb (mkM lf tp wd hg tx ty) 5 (by omega)
                    generalize mvL x bb (mkM lf tp wd hg tx ty) BEF9 z9 = XM9 at hW hrM ew4 ew5
                    refine lv_aload_n hx hb dL_law_603 rfl (lv_at hl 1 rfl) ?_
                    refine lv_iload hx hb dL_law_604 (lv_at hl 13 rfl) ?_
                    refine lv_iload hx hb dL_law_606 (lv_at hl 14 rfl) ?_
                    refine lv_iload hx hb dL_law_608 (lv_at hl 15 rfl) ?_
                    refine lv_iload hx hb dL_law_610 (lv_at hl 16 rfl) ?_
                    refine lv_aload hx hb dL_law_612 (lv_at hl 6 rfl) ?_
                    refine lv_iload hx hb dL_law_614 (lv_at hl 17 rfl) ?_
                    refine lv_iconst (v := 4) hx hb dL_law_616 (by decide) ?_
                    refine lv_iadd hx hb dL_law_617 ?_
                    refine fz_il X hW 39 (bb + 4) rfl (nI_add bb 4) (by omega) (by decide) dL_law_618 ?_
                    refine fz_top (x' := nI tx) ew4 ?_
                    refine lv_aload hx hb dL_law_619 (lv_at hl 6 rfl) ?_
                    refine lv_iload hx hb dL_law_621 (lv_at hl 17 rfl) ?_
                    refine lv_iconst (v := 5) hx hb dL_law_623 (by decide) ?_
                    refine lv_iadd hx hb dL_law_624 ?_
                    refine fz_il X hW 39 (bb + 5) rfl (nI_add bb 5) (by omega) (by decide) dL_law_625 ?_
                    refine fz_top (x' := nI ty) ew5 ?_
                    refine fz_cVi X hW (fz_C.lo (k_X3_move l g f a b v u (nI lf) (nI tp) (nI wd) (nI hg) (nI tx) (nI ty) (okB_n hwd hhg h8 h6) (okB_n hwd hhg (by omega) (by omega)) (fun z => hne ⟨((nI_eq (by omega) (by omega)).mp z.1).symm, ((nI_eq (by omega) (by omega)).mp z.2).symm⟩) hB.2.1.1) r XM9 q BEF9) lk_L_38 (ci := 3) (q0 := 0) rfl rfl rfl rfl ⟨Nat.le_of_ble_eq_true rfl, Nat.le_of_ble_eq_true rfl⟩ hl rfl (Nat.le_of_ble_eq_true rfl) dL_law_626 (ce hcs (by omega) (by omega)) (fun H locs hW => ?_)
                    rw [nI_clamp (show lf < 2 ^ 31 by omega), nI_clamp (show tp < 2 ^ 31 by omega), nI_clamp (show wd < 2 ^ 31 by omega), nI_clamp (show hg < 2 ^ 31 by omega), nI_clamp (show tx < 2 ^ 31 by omega), nI_clamp (show ty < 2 ^ 31 by omega)] at hW
                    rw [nI_clamp (show lf < 2 ^ 31 by omega), nI_clamp (show tp < 2 ^ 31 by omega), nI_clamp (show wd < 2 ^ 31 by omega), nI_clamp (show hg < 2 ^ 31 by omega), nI_clamp (show tx < 2 ^ 31 by omega), nI_clamp (show ty < 2 ^ 31 by omega)]
                    refine lv_aload hx hb dL_law_629 (lv_at hl 8 rfl) ?_
                    refine lv_iconst (v := 2) hx hb dL_law_631 (by decide) ?_
                    refine fz_il X hW 41 (2) rfl rfl (by omega) (by decide) dL_law_632 ?_
                    refine lv_icmp_eq (tgt := 638) hx hb dL_law_633 (by decide) (fun c633 => ?_) (fun c633 => ?_)
                    · skip
                      refine lv_goto (tgt := 754) hx hb dL_law_638 (by decide) ?_
                      have hW : fz_W g A s (LW g f a b (shV v (mkM lf tp wd hg tx ty)) u r XM9) H locs := fz_W.pick hW [0, 1, 2, 3, 4, 5, 6, 7, 8, 9, 10, 11, 12, 13, 14, 15, 16, 17, 18, 19, 20, 21, 22, 23, 24, 25, 26, 27, 28, 29, 30, 31, 32, 33, 34, 35, 36, 37, 38, 39, 40, 41] rfl rfl
                      refine W.widen (k := cells + 6) (n := slots + 60) (by omega) (by omega) ?_
                      exact kk (shV v (mkM lf tp wd hg tx ty)) XM9 _ _ _ (⟨hrM, inv_up hiM (Nat.le_succ T) hT⟩) hW (lv_sub hl [0, 1, 2, 3, 4, 5, 6, 7, 8, 9] rfl)
                    · exact absurd hrM.2.2.2.2.2.2.2.2.2.1.symm c633
                  refine lv_icmp_ge (tgt := 600) hx hb dL_law_593 (by decide) (fun c593 => ?_) (fun c593 => ?_)
                  · skip
                    refine lv_iconst (v := 0) hx hb dL_law_600 (by decide) ?_
                    exact join601 0 (if_neg (fun z => absurd ((nI_leI (a := 4) (b := v.wm) (by omega) (by omega)).mp (by rw [← dg2]; exact c593)) (by omega))).symm _ (lv_sub hl [0, 1, 2, 3, 4, 5, 6, 7, 8, 9, 10, 11, 12, 13, 14, 15, 16, 17, 18] rfl)
                  · skip
                    refine lv_iconst (v := 1) hx hb dL_law_596 (by decide) ?_
                    refine lv_goto (tgt := 601) hx hb dL_law_597 (by decide) ?_
                    exact join601 1 (if_pos (Nat.not_le.mp (fun z => c593 (by rw [dg2]; exact (nI_leI (a := 4) (b := v.wm) (by omega) (by omega)).mpr z)))).symm _ (lv_sub hl [0, 1, 2, 3, 4, 5, 6, 7, 8, 9, 10, 11, 12, 13, 14, 15, 16, 17, 18] rfl)
                · skip
                  have h556 : i < 48 := Nat.not_le.mp (fun z => c556 ((nI_leI (a := 48) (b := i) (by omega) (by omega)).mpr z))
                  refine lv_iload hx hb dL_law_559 (lv_at hl 19 rfl) ?_
                  refine lv_aload hx hb dL_law_561 (lv_at hl 18 rfl) ?_
                  refine lv_iload hx hb dL_law_563 (lv_at hl 19 rfl) ?_
                  refine fz_il X hW 42 (i) rfl rfl (by omega) (by decide) dL_law_565 ?_
                  refine lv_aload_n hx hb dL_law_566 rfl (lv_at hl 2 rfl) ?_
                  refine lv_aload_n hx hb dL_law_567 rfl (lv_at hl 3 rfl) ?_
                  refine lv_aload hx hb dL_law_568 (lv_at hl 4 rfl) ?_
                  refine lv_aload hx hb dL_law_570 (lv_at hl 5 rfl) ?_
                  refine lv_aload hx hb dL_law_572 (lv_at hl 8 rfl) ?_
                  refine fz_cSv X hW (fz_C.l3 (c_L_draw l g r (dmv (x.wS (w6 x.w bb (mkM lf tp wd hg tx ty))) BEF9 i) i (by omega) (BEF9 i)) f a b v u q BEF9) lk_L_92 rfl ⟨Nat.le_of_ble_eq_true rfl, Nat.le_of_ble_eq_true rfl⟩ hl rfl (Nat.le_of_ble_eq_true rfl) dL_law_574 (ce hcs (by omega) (by omega)) (fun H locs hW => ?_)
                  refine lv_iinc (v := nI (i + 1)) (lv' := [(19, .int (nI (i + 1))), (0, .ref b0), (1, .ref f), (2, .ref (r 0)), (3, .ref (r 1)), (4, .ref (r 2)), (5, .ref (r 3)), (6, .ref (r 4)), (7, .ref (r 5)), (8, .ref (r 6)), (9, .int (nI K)), (10, .int xv), (11, .int yv), (12, .int (nI kd)), (13, .int (nI lf)), (14, .int (nI tp)), (15, .int (nI wd)), (16, .int (nI hg)), (17, .int (nI bb)), (18, .ref q)]) hx hb dL_law_577 hl (k := 19) rfl (nI_1 _) (by decide) rfl (fun ls hl => ?_)
                  refine lv_goto (tgt := 552) hx hb dL_law_580 (by decide) ?_
                  exact ih552 (i + 1) (by omega) (by omega) _ _ _ (fz_cast (rfl) hW) (lv_sub hl [1, 2, 3, 4, 5, 6, 7, 8, 9, 10, 11, 12, 13, 14, 15, 16, 17, 18, 19, 0] rfl)
            exact loop552 (48 + 1) 0 (by omega) (by omega) _ _ _ (fz_cast (rfl) hW) (lv_sub hl [1, 2, 3, 4, 5, 6, 7, 8, 9, 10, 11, 12, 13, 14, 15, 16, 17, 18, 19, 0] rfl)
          · skip
            have h522 : i < 48 := Nat.not_le.mp (fun z => c522 ((nI_leI (a := 48) (b := i) (by omega) (by omega)).mpr z))
            refine lv_aload hx hb dL_law_525 (lv_at hl 18 rfl) ?_
            refine lv_iload hx hb dL_law_527 (lv_at hl 19 rfl) ?_
            refine lv_aload_n hx hb dL_law_529 rfl (lv_at hl 2 rfl) ?_
            refine lv_iload hx hb dL_law_530 (lv_at hl 19 rfl) ?_
            refine fz_il X hW 35 (i) rfl rfl (by omega) (by decide) dL_law_532 ?_
            refine fz_is X hW 42 (i) rfl rfl (by omega) (by decide) dL_law_533 (fun H locs hW => ?_)
            refine lv_iinc (v := nI (i + 1)) (lv' := [(19, .int (nI (i + 1))), (0, .ref b0), (1, .ref f), (2, .ref (r 0)), (3, .ref (r 1)), (4, .ref (r 2)), (5, .ref (r 3)), (6, .ref (r 4)), (7, .ref (r 5)), (8, .ref (r 6)), (9, .int (nI K)), (10, .int xv), (11, .int yv), (12, .int (nI kd)), (13, .int (nI lf)), (14, .int (nI tp)), (15, .int (nI wd)), (16, .int (nI hg)), (17, .int (nI bb)), (18, .ref q)]) hx hb dL_law_534 hl (k := 19) rfl (nI_1 _) (by decide) rfl (fun ls hl => ?_)
            refine lv_goto (tgt := 518) hx hb dL_law_537 (by decide) ?_
            exact ih518 (i + 1) (by omega) (by omega) _ _ _ (fz_cast (congrArg (fun z => (LO g f a b v u r (x.wS (w6 x.w bb (mkM lf tp wd hg tx ty))) q z : va_W)) (fz_to_s x.n (fun _ => 0) i rfl)) hW) (lv_sub hl [1, 2, 3, 4, 5, 6, 7, 8, 9, 10, 11, 12, 13, 14, 15, 16, 17, 18, 19, 0] rfl)
      exact loop518 (48 + 1) 0 (by omega) (by omega) _ _ _ (fz_cast (congrArg (fun z => (LO g f a b v u r (x.wS (w6 x.w bb (mkM lf tp wd hg tx ty))) q z : va_W)) (fz_to_0 x.n (fun _ => 0)).symm) hW) (lv_sub hl [3, 4, 5, 6, 7, 8, 9, 10, 11, 12, 13, 14, 15, 16, 17, 18, 19, 2, 1, 0] rfl)
    refine lv_icmp_ne (tgt := 509) hx hb dL_law_479 (by decide) (fun c479 => ?_) (fun c479 => ?_)
    · skip
      exact join509 () (fun z => c479 (by rw [z.1])) _ (lv_sub hl [0, 1, 2, 3, 4, 5, 6, 7, 8, 9, 10, 11, 12, 13, 14, 15, 16, 17] rfl)
    · skip
      refine lv_aload hx hb dL_law_482 (lv_at hl 7 rfl) ?_
      refine lv_iload hx hb dL_law_484 (lv_at hl 0 rfl) ?_
      refine lv_iconst (v := 5) hx hb dL_law_486 (by decide) ?_
      refine lv_iadd hx hb dL_law_487 ?_
      refine fz_il X hW 39 (bb + 5) rfl (nI_add bb 5) (by omega) (by decide) dL_law_488 ?_
      refine fz_top (x' := nI ty) (w6_in x.w bb (mkM lf tp wd hg tx ty) 5 (by omega)) ?_
      refine lv_iload hx hb dL_law_489 (lv_at hl 15 rfl) ?_
      refine lv_icmp_ne (tgt := 509) hx hb dL_law_491 (by decide) (fun c491 => ?_) (fun c491 => ?_)
      · skip
        exact join509 () (fun z => c491 (by rw [z.2])) _ (lv_sub hl [0, 1, 2, 3, 4, 5, 6, 7, 8, 9, 10, 11, 12, 13, 14, 15, 16, 17] rfl)
      · skip
        refine lv_aload_n hx hb dL_law_494 rfl (lv_at hl 2 rfl) ?_
        refine lv_iconst (v := 2) hx hb dL_law_495 (by decide) ?_
        refine lv_iload hx hb dL_law_496 (lv_at hl 14 rfl) ?_
        refine lv_iload hx hb dL_law_498 (lv_at hl 15 rfl) ?_
        refine fz_cH X Y hN hW (fz_CH.lf (h_move1 l hfl g f a b v u (nI lf) (nI tp) (okB_n (i := lf) (j := tp) (w := 1) (z := 1) (by decide) (by decide) (by omega) (by omega)) hB.2.1.1) r (x.wS (w6 x.w bb (mkM lf tp wd hg tx ty)))) lh_71 rfl ⟨Nat.le_of_ble_eq_true rfl, Nat.le_of_ble_eq_true rfl⟩ hl rfl (Nat.le_of_ble_eq_true rfl) dL_law_500 (ce hcs (by omega) (by omega)) (fun H locs hW => ?_)
        refine lv_iconst (v := 2) hx hb dL_law_503 (by decide) ?_
        refine lv_icmp_eq (tgt := 773) hx hb dL_law_504 (by decide) (fun c504 => ?_) (fun c504 => ?_)
        · skip
          refine W.widen (k := cells + 6) (n := slots + 60) (by omega) (by omega) ?_
          exact k2 v (x.wS (w6 x.w bb (mkM lf tp wd hg tx ty))) _ _ _ ⟨hBw, inv_up hB.2 (Nat.le_succ T) hT⟩ hW (lv_sub hl [1, 2, 3, 4, 5, 6, 7, 8, 9, 10] rfl)
        · first | exact absurd c504 (by decide) | exact absurd (by decide) c504
  refine lv_icmp_ge (tgt := 393) hx hb dL_law_380 (by decide) (fun c380 => ?_) (fun c380 => ?_)
  · skip
    have h380 : ¬ v.wm < 4 := by
      have := (nI_leI (a := 4) (b := v.wm) (by omega) (by omega)).mp (by rw [← eg2]; exact c380)
      omega
    refine lv_bipush (v := 24) hx hb dL_law_393 (by decide) ?_
    exact join395 24 (if_neg (by omega)).symm (by omega) _ (lv_sub hl [0, 1, 2, 3, 4, 5, 6, 7, 8, 9, 10, 11, 12, 13, 14, 15, 16] rfl)
  · skip
    have h380 : v.wm < 4 := Nat.not_le.mp (fun z => c380 (by rw [eg2]; exact (nI_leI (a := 4) (b := v.wm) (by omega) (by omega)).mpr z))
    refine lv_bipush (v := 6) hx hb dL_law_383 (by decide) ?_
    refine lv_aload hx hb dL_law_385 (lv_at hl 8 rfl) ?_
    refine lv_iconst (v := 2) hx hb dL_law_387 (by decide) ?_
    refine fz_il X hW 41 (2) rfl rfl (by omega) (by decide) dL_law_388 ?_
    refine lv_imul hx hb dL_law_389 ?_
    refine fz_top (x' := nI (6 * v.wm)) (by rw [eg2]; exact pk_mul 6 v.wm) ?_
    refine lv_goto (tgt := 395) hx hb dL_law_390 (by decide) ?_
    exact join395 (6 * v.wm) (if_pos h380).symm (by omega) _ (lv_sub hl [0, 1, 2, 3, 4, 5, 6, 7, 8, 9, 10, 11, 12, 13, 14, 15, 16] rfl)
