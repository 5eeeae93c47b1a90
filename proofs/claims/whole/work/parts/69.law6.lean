/-! the law's cases: far, kind, since -/
set_option maxHeartbeats 4000000 in
set_option maxRecDepth 100000 in
theorem lc_far {p : Program} {l : Launch} {e : Env} {s : State} {m : MethodId} {args : Array Value} {below : List Frame} {meth : Method} {c : Code} {H : Heap} {locs : List Loc} {cells slots : Nat} {Q : State → Prop} {rt : Option FieldType} {g : GG} {A : Nat → Prop} {ls : Array Slot} {b0 L i K f q : Nat} {xs : Nat → Int32} {a d o : Nat → Nat} {v u : SV} {lf : Nat → Int64} {w : MV} (X : fz_X p s m meth c RL cL_law 7 rt g A) (Y : fz_Y s A) (hN : va_Nc XIA XIO s) (hfl : l.stackTraces = false) (hX : va_X b0 L xs s s.heap) (hbl : b0 < s.heap.size) (hbA : ¬ A b0) (hL : L ≤ 3584) (hi : i + 7 ≤ L) (hB : Both v w K) (hK : K ≤ 1000) (hcs : cells + 5 ≤ 601024 ∧ slots + 30 ≤ 7293034) (hW : fz_W g A s (LW g f a d v u q lf o w) H locs) (hl : lv_has ls 7 (lo5 b0 f (o 0) q i))
    (kk : ∀ (v u : SV) (lf : Nat → Int64) (w : MV) (H : Heap) (locs : List Loc) (ls : Array Slot), Both v w (K + 1) → fz_W g A s (LW g f a d v u q lf o w) H locs → lv_has ls 7 (lo5 b0 f (o 0) q i) → W p l e room_1 s m args below meth c H locs (cells + 5) (slots + 30) Q (F0 m 1006 ls [])) : W p l e room_1 s m args below meth c H locs cells slots Q (F0 m 555 ls []) := by
  have hx := X.1
  have hb := X.2.1
  have hl : lv_has ls 7 [(0, .ref b0), (1, .ref f), (2, .ref (o 0)), (3, .ref q), (4, .int (nI i))] := hl
  have pr := pr_ask hB hK (xs (i + 1)) (xs (i + 2)) hB.1.2.1
  refine lv_aload_n hx hb dL_law_555 rfl (lv_at hl 1 rfl) ?_
  refine lv_aload_n hx hb dL_law_556 rfl (lv_at hl 0 rfl) ?_
  refine lv_iload hx hb dL_law_557 (lv_at hl 4 rfl) ?_
  refine lv_iconst (v := 1) hx hb dL_law_559 (by decide) ?_
  refine lv_iadd hx hb dL_law_560 ?_
  refine fz_sx X hW hX hbl hbA (i + 1) (nI_add i 1) (by omega) hL dL_law_561 ?_
  refine lv_aload_n hx hb dL_law_562 rfl (lv_at hl 0 rfl) ?_
  refine lv_iload hx hb dL_law_563 (lv_at hl 4 rfl) ?_
  refine lv_iconst (v := 2) hx hb dL_law_565 (by decide) ?_
  refine lv_iadd hx hb dL_law_566 ?_
  refine fz_sx X hW hX hbl hbA (i + 2) (nI_add i 2) (by omega) hL dL_law_567 ?_
  refine lv_aload_n hx hb dL_law_568 rfl (lv_at hl 3 rfl) ?_
  rcases hex : exT (xs (i + 1)) (xs (i + 2)) with _ | E
  · skip
    obtain ⟨t1, t2, t3⟩ := pr.1 hex
    refine fz_cH X Y hN hW (fz_CH.lw (h_far l hfl g f a d v u q lf (xs (i + 1)) (xs (i + 2)) (FW g f a d (v) (u) ++ [LR g q (vp_updL lf 0 (v.far (tN (xs (i + 1)) (xs (i + 2)))).toInt64)]) 0 (fun _ => ⟨rfl, rfl⟩) (fun E z => by rw [hex] at z; cases z)) o w) lh_83 rfl ⟨(Nat.le_of_ble_eq_true rfl), (Nat.le_of_ble_eq_true rfl)⟩ hl rfl (Nat.le_of_ble_eq_true rfl) dL_law_569 (ce1 hcs (by omega) (by omega)) (fun H locs hW => ?_)
    generalize hx1 : v.far (tN (xs (i + 1)) (xs (i + 2))) = x1 at hW t2
    refine lv_istore (lv' := [(5, .int 0), (0, .ref b0), (1, .ref f), (2, .ref (o 0)), (3, .ref q), (4, .int (nI i))]) hx hb dL_law_572 hl (by decide) rfl (fun ls hl => ?_)
    refine lv_aload_n hx hb dL_law_574 rfl (lv_at hl 3 rfl) ?_
    refine lv_aload_n hx hb dL_law_575 rfl (lv_at hl 1 rfl) ?_
    refine lv_iload hx hb dL_law_576 (lv_at hl 5 rfl) ?_
    refine lv_iconst (v := 1) hx hb dL_law_578 (by decide) ?_
    refine lv_iadd hx hb dL_law_579 ?_
    refine fz_sx X hW hX hbl hbA (i + 1) (nI_add i 1) (by omega) hL dL_law_580 ?_
    refine lv_aload_n hx hb dL_law_581 rfl (lv_at hl 1 rfl) ?_
    refine lv_iload hx hb dL_law_582 (lv_at hl 5 rfl) ?_
    refine lv_iconst (v := 2) hx hb dL_law_584 (by decide) ?_
    refine lv_iadd hx hb dL_law_585 ?_
    refine fz_sx X hW hX hbl hbA (i + 2) (nI_add i 2) (by omega) hL dL_law_586 ?_
    refine fz_cVi X hW (fz_C.lwM (c_X4_far l g o w (xs (i + 1)) (xs (i + 2))) f a d v u q (vp_updL lf 0 x1.toInt64)) lk_L_85 (ci := 4) (q0 := 36) rfl rfl rfl rfl ⟨(Nat.le_of_ble_eq_true rfl), (Nat.le_of_ble_eq_true rfl)⟩ hl rfl (Nat.le_of_ble_eq_true rfl) dL_law_587 (ce1 hcs (by omega) (by omega)) (fun H locs hW => ?_)
    generalize hw1 : maV w (xs (i + 1)) (xs (i + 2)) = w1 at hW t1 t3
    generalize hy1 : maR (xs (i + 1)) (xs (i + 2)) w.far = y1 at t2 ⊢
    refine lv_istore (lv' := [(6, .int y1), (5, .int 0), (0, .ref b0), (1, .ref f), (2, .ref (o 0)), (3, .ref q), (4, .int (nI i))]) hx hb dL_law_590 hl (by decide) rfl (fun ls hl => ?_)
    refine lv_aload_n hx hb dL_law_592 rfl (lv_at hl 4 rfl) ?_
    refine fz_cVi X hW (fz_C.lwM (c_X4_thrown l g o w1) f a d v u q (vp_updL lf 0 x1.toInt64)) lk_L_60 (ci := 4) (q0 := 36) rfl rfl rfl rfl ⟨(Nat.le_of_ble_eq_true rfl), (Nat.le_of_ble_eq_true rfl)⟩ hl rfl (Nat.le_of_ble_eq_true rfl) dL_law_593 (ce1 hcs (by omega) (by omega)) (fun H locs hW => ?_)
    refine lv_iload hx hb dL_law_596 (lv_at hl 1 rfl) ?_
    refine lv_icmp_eq (tgt := 603) hx hb dL_law_598 (by decide) (fun c1 => ?_) (fun c1 => absurd t1 c1)
    refine lv_iload hx hb dL_law_603 (lv_at hl 1 rfl) ?_
    refine lv_if_ne (tgt := 620) hx hb dL_law_605 (by decide) (fun c2 => absurd rfl c2) (fun c2 => ?_)
    refine lv_aload_n hx hb dL_law_608 rfl (lv_at hl 5 rfl) ?_
    refine lv_iconst (v := 0) hx hb dL_law_609 (by decide) ?_
    refine fz_jl X hW 35 0 rfl rfl (by omega) (by decide) dL_law_610 ?_
    refine lv_iload hx hb dL_law_611 (lv_at hl 0 rfl) ?_
    refine lv_i2l hx hb dL_law_613 rfl ?_
    refine W.lcmp hx hb dL_law_614 ?_
    refine lv_if_eq (tgt := 620) hx hb dL_law_615 (by decide) (fun c3 => ?_) (fun c3 => absurd (lg_same (by rw [up_0, t2])) c3)
    refine lv_goto (tgt := 1006) hx hb dL_law_620 (by decide) ?_
    refine W.widen (k := cells + 5) (n := slots + 30) (by omega) (by omega) ?_
    exact kk v u (vp_updL lf 0 x1.toInt64) w1 _ _ _ t3 hW (lv_sub hl [2, 3, 4, 5, 6] rfl)
  · skip
    obtain ⟨t1, t3⟩ := pr.2 E hex
    refine fz_cH X Y hN hW (fz_CH.lw (h_far l hfl g f a d v u q lf (xs (i + 1)) (xs (i + 2)) (FW g f a d v u ++ [LR g q lf]) (cd1 E) (fun z => by rw [hex] at z; cases z) (fun E2 z => by rw [hex] at z; cases z; exact ⟨rfl, rfl⟩)) o w) lh_83 rfl ⟨(Nat.le_of_ble_eq_true rfl), (Nat.le_of_ble_eq_true rfl)⟩ hl rfl (Nat.le_of_ble_eq_true rfl) dL_law_569 (ce1 hcs (by omega) (by omega)) (fun H locs hW => ?_)
    refine lv_istore (lv' := [(5, .int (cd1 E)), (0, .ref b0), (1, .ref f), (2, .ref (o 0)), (3, .ref q), (4, .int (nI i))]) hx hb dL_law_572 hl (by decide) rfl (fun ls hl => ?_)
    refine lv_aload_n hx hb dL_law_574 rfl (lv_at hl 3 rfl) ?_
    refine lv_aload_n hx hb dL_law_575 rfl (lv_at hl 1 rfl) ?_
    refine lv_iload hx hb dL_law_576 (lv_at hl 5 rfl) ?_
    refine lv_iconst (v := 1) hx hb dL_law_578 (by decide) ?_
    refine lv_iadd hx hb dL_law_579 ?_
    refine fz_sx X hW hX hbl hbA (i + 1) (nI_add i 1) (by omega) hL dL_law_580 ?_
    refine lv_aload_n hx hb dL_law_581 rfl (lv_at hl 1 rfl) ?_
    refine lv_iload hx hb dL_law_582 (lv_at hl 5 rfl) ?_
    refine lv_iconst (v := 2) hx hb dL_law_584 (by decide) ?_
    refine lv_iadd hx hb dL_law_585 ?_
    refine fz_sx X hW hX hbl hbA (i + 2) (nI_add i 2) (by omega) hL dL_law_586 ?_
    refine fz_cVi X hW (fz_C.lwM (c_X4_far l g o w (xs (i + 1)) (xs (i + 2))) f a d v u q lf) lk_L_85 (ci := 4) (q0 := 36) rfl rfl rfl rfl ⟨(Nat.le_of_ble_eq_true rfl), (Nat.le_of_ble_eq_true rfl)⟩ hl rfl (Nat.le_of_ble_eq_true rfl) dL_law_587 (ce1 hcs (by omega) (by omega)) (fun H locs hW => ?_)
    generalize hw1 : maV w (xs (i + 1)) (xs (i + 2)) = w1 at hW t1 t3
    generalize hy1 : maR (xs (i + 1)) (xs (i + 2)) w.far = y1
    refine lv_istore (lv' := [(6, .int y1), (5, .int (cd1 E)), (0, .ref b0), (1, .ref f), (2, .ref (o 0)), (3, .ref q), (4, .int (nI i))]) hx hb dL_law_590 hl (by decide) rfl (fun ls hl => ?_)
    refine lv_aload_n hx hb dL_law_592 rfl (lv_at hl 4 rfl) ?_
    refine fz_cVi X hW (fz_C.lwM (c_X4_thrown l g o w1) f a d v u q lf) lk_L_60 (ci := 4) (q0 := 36) rfl rfl rfl rfl ⟨(Nat.le_of_ble_eq_true rfl), (Nat.le_of_ble_eq_true rfl)⟩ hl rfl (Nat.le_of_ble_eq_true rfl) dL_law_593 (ce1 hcs (by omega) (by omega)) (fun H locs hW => ?_)
    refine lv_iload hx hb dL_law_596 (lv_at hl 1 rfl) ?_
    refine lv_icmp_eq (tgt := 603) hx hb dL_law_598 (by decide) (fun c1 => ?_) (fun c1 => absurd t1 c1)
    refine lv_iload hx hb dL_law_603 (lv_at hl 1 rfl) ?_
    refine lv_if_ne (tgt := 620) hx hb dL_law_605 (by decide) (fun c2 => ?_) (fun c2 => absurd c2 (cd1_0 E))
    refine lv_goto (tgt := 1006) hx hb dL_law_620 (by decide) ?_
    refine W.widen (k := cells + 5) (n := slots + 30) (by omega) (by omega) ?_
    exact kk v u lf w1 _ _ _ t3 hW (lv_sub hl [2, 3, 4, 5, 6] rfl)
set_option maxHeartbeats 4000000 in
set_option maxRecDepth 100000 in
theorem lc_kind {p : Program} {l : Launch} {e : Env} {s : State} {m : MethodId} {args : Array Value} {below : List Frame} {meth : Method} {c : Code} {H : Heap} {locs : List Loc} {cells slots : Nat} {Q : State → Prop} {rt : Option FieldType} {g : GG} {A : Nat → Prop} {ls : Array Slot} {b0 L i K f q : Nat} {xs : Nat → Int32} {a d o : Nat → Nat} {v u : SV} {lf : Nat → Int64} {w : MV} (X : fz_X p s m meth c RL cL_law 7 rt g A) (Y : fz_Y s A) (hN : va_Nc XIA XIO s) (hfl : l.stackTraces = false) (hX : va_X b0 L xs s s.heap) (hbl : b0 < s.heap.size) (hbA : ¬ A b0) (hL : L ≤ 3584) (hi : i + 7 ≤ L) (hB : Both v w K) (hK : K ≤ 1000) (hcs : cells + 5 ≤ 601024 ∧ slots + 30 ≤ 7293034) (hW : fz_W g A s (LW g f a d v u q lf o w) H locs) (hl : lv_has ls 7 (lo5 b0 f (o 0) q i))
    (kk : ∀ (v u : SV) (lf : Nat → Int64) (w : MV) (H : Heap) (locs : List Loc) (ls : Array Slot), Both v w (K + 1) → fz_W g A s (LW g f a d v u q lf o w) H locs → lv_has ls 7 (lo5 b0 f (o 0) q i) → W p l e room_1 s m args below meth c H locs (cells + 5) (slots + 30) Q (F0 m 1006 ls [])) : W p l e room_1 s m args below meth c H locs cells slots Q (F0 m 623 ls []) := by
  have hx := X.1
  have hb := X.2.1
  have hl : lv_has ls 7 [(0, .ref b0), (1, .ref f), (2, .ref (o 0)), (3, .ref q), (4, .int (nI i))] := hl
  have pr := pr_kind hB hK (xs (i + 1)) (xs (i + 2))
  refine lv_aload_n hx hb dL_law_623 rfl (lv_at hl 1 rfl) ?_
  refine lv_aload_n hx hb dL_law_624 rfl (lv_at hl 0 rfl) ?_
  refine lv_iload hx hb dL_law_625 (lv_at hl 4 rfl) ?_
  refine lv_iconst (v := 1) hx hb dL_law_627 (by decide) ?_
  refine lv_iadd hx hb dL_law_628 ?_
  refine fz_sx X hW hX hbl hbA (i + 1) (nI_add i 1) (by omega) hL dL_law_629 ?_
  refine lv_aload_n hx hb dL_law_630 rfl (lv_at hl 0 rfl) ?_
  refine lv_iload hx hb dL_law_631 (lv_at hl 4 rfl) ?_
  refine lv_iconst (v := 2) hx hb dL_law_633 (by decide) ?_
  refine lv_iadd hx hb dL_law_634 ?_
  refine fz_sx X hW hX hbl hbA (i + 2) (nI_add i 2) (by omega) hL dL_law_635 ?_
  refine lv_aload_n hx hb dL_law_636 rfl (lv_at hl 3 rfl) ?_
  rcases hex : exT (xs (i + 1)) (xs (i + 2)) with _ | E
  · skip
    obtain ⟨t1, t2, t3⟩ := pr.1 hex
    refine fz_cH X Y hN hW (fz_CH.lw (h_kind l hfl g f a d v u q lf (xs (i + 1)) (xs (i + 2)) (FW g f a d (v) (u) ++ [LR g q (vp_updL lf 0 (kdI v (tN (xs (i + 1)) (xs (i + 2)))).toInt64)]) 0 (fun _ => ⟨rfl, rfl⟩) (fun E z => by rw [hex] at z; cases z)) o w) lh_86 rfl ⟨(Nat.le_of_ble_eq_true rfl), (Nat.le_of_ble_eq_true rfl)⟩ hl rfl (Nat.le_of_ble_eq_true rfl) dL_law_637 (ce1 hcs (by omega) (by omega)) (fun H locs hW => ?_)
    generalize hx1 : kdI v (tN (xs (i + 1)) (xs (i + 2))) = x1 at hW t2
    refine lv_istore (lv' := [(5, .int 0), (0, .ref b0), (1, .ref f), (2, .ref (o 0)), (3, .ref q), (4, .int (nI i))]) hx hb dL_law_640 hl (by decide) rfl (fun ls hl => ?_)
    refine lv_aload_n hx hb dL_law_642 rfl (lv_at hl 3 rfl) ?_
    refine lv_aload_n hx hb dL_law_643 rfl (lv_at hl 1 rfl) ?_
    refine lv_iload hx hb dL_law_644 (lv_at hl 5 rfl) ?_
    refine lv_iconst (v := 1) hx hb dL_law_646 (by decide) ?_
    refine lv_iadd hx hb dL_law_647 ?_
    refine fz_sx X hW hX hbl hbA (i + 1) (nI_add i 1) (by omega) hL dL_law_648 ?_
    refine lv_aload_n hx hb dL_law_649 rfl (lv_at hl 1 rfl) ?_
    refine lv_iload hx hb dL_law_650 (lv_at hl 5 rfl) ?_
    refine lv_iconst (v := 2) hx hb dL_law_652 (by decide) ?_
    refine lv_iadd hx hb dL_law_653 ?_
    refine fz_sx X hW hX hbl hbA (i + 2) (nI_add i 2) (by omega) hL dL_law_654 ?_
    refine fz_cVi X hW (fz_C.lwM (c_X4_kind l g o w (xs (i + 1)) (xs (i + 2))) f a d v u q (vp_updL lf 0 x1.toInt64)) lk_L_88 (ci := 4) (q0 := 36) rfl rfl rfl rfl ⟨(Nat.le_of_ble_eq_true rfl), (Nat.le_of_ble_eq_true rfl)⟩ hl rfl (Nat.le_of_ble_eq_true rfl) dL_law_655 (ce1 hcs (by omega) (by omega)) (fun H locs hW => ?_)
    generalize hw1 : maV w (xs (i + 1)) (xs (i + 2)) = w1 at hW t1 t3
    generalize hy1 : maR (xs (i + 1)) (xs (i + 2)) (mkI w) = y1 at t2 ⊢
    refine lv_istore (lv' := [(6, .int y1), (5, .int 0), (0, .ref b0), (1, .ref f), (2, .ref (o 0)), (3, .ref q), (4, .int (nI i))]) hx hb dL_law_658 hl (by decide) rfl (fun ls hl => ?_)
    refine lv_aload_n hx hb dL_law_660 rfl (lv_at hl 4 rfl) ?_
    refine fz_cVi X hW (fz_C.lwM (c_X4_thrown l g o w1) f a d v u q (vp_updL lf 0 x1.toInt64)) lk_L_60 (ci := 4) (q0 := 36) rfl rfl rfl rfl ⟨(Nat.le_of_ble_eq_true rfl), (Nat.le_of_ble_eq_true rfl)⟩ hl rfl (Nat.le_of_ble_eq_true rfl) dL_law_661 (ce1 hcs (by omega) (by omega)) (fun H locs hW => ?_)
    refine lv_iload hx hb dL_law_664 (lv_at hl 1 rfl) ?_
    refine lv_icmp_eq (tgt := 671) hx hb dL_law_666 (by decide) (fun c1 => ?_) (fun c1 => absurd t1 c1)
    refine lv_iload hx hb dL_law_671 (lv_at hl 1 rfl) ?_
    refine lv_if_ne (tgt := 688) hx hb dL_law_673 (by decide) (fun c2 => absurd rfl c2) (fun c2 => ?_)
    refine lv_aload_n hx hb dL_law_676 rfl (lv_at hl 5 rfl) ?_
    refine lv_iconst (v := 0) hx hb dL_law_677 (by decide) ?_
    refine fz_jl X hW 35 0 rfl rfl (by omega) (by decide) dL_law_678 ?_
    refine lv_iload hx hb dL_law_679 (lv_at hl 0 rfl) ?_
    refine lv_i2l hx hb dL_law_681 rfl ?_
    refine W.lcmp hx hb dL_law_682 ?_
    refine lv_if_eq (tgt := 688) hx hb dL_law_683 (by decide) (fun c3 => ?_) (fun c3 => absurd (lg_same (by rw [up_0, t2])) c3)
    refine lv_goto (tgt := 1006) hx hb dL_law_688 (by decide) ?_
    refine W.widen (k := cells + 5) (n := slots + 30) (by omega) (by omega) ?_
    exact kk v u (vp_updL lf 0 x1.toInt64) w1 _ _ _ t3 hW (lv_sub hl [2, 3, 4, 5, 6] rfl)
  · skip
    obtain ⟨t1, t3⟩ := pr.2 E hex
    refine fz_cH X Y hN hW (fz_CH.lw (h_kind l hfl g f a d v u q lf (xs (i + 1)) (xs (i + 2)) (FW g f a d v u ++ [LR g q lf]) (cd1 E) (fun z => by rw [hex] at z; cases z) (fun E2 z => by rw [hex] at z; cases z; exact ⟨rfl, rfl⟩)) o w) lh_86 rfl ⟨(Nat.le_of_ble_eq_true rfl), (Nat.le_of_ble_eq_true rfl)⟩ hl rfl (Nat.le_of_ble_eq_true rfl) dL_law_637 (ce1 hcs (by omega) (by omega)) (fun H locs hW => ?_)
    refine lv_istore (lv' := [(5, .int (cd1 E)), (0, .ref b0), (1, .ref f), (2, .ref (o 0)), (3, .ref q), (4, .int (nI i))]) hx hb dL_law_640 hl (by decide) rfl (fun ls hl => ?_)
    refine lv_aload_n hx hb dL_law_642 rfl (lv_at hl 3 rfl) ?_
    refine lv_aload_n hx hb dL_law_643 rfl (lv_at hl 1 rfl) ?_
    refine lv_iload hx hb dL_law_644 (lv_at hl 5 rfl) ?_
    refine lv_iconst (v := 1) hx hb dL_law_646 (by decide) ?_
    refine lv_iadd hx hb dL_law_647 ?_
    refine fz_sx X hW hX hbl hbA (i + 1) (nI_add i 1) (by omega) hL dL_law_648 ?_
    refine lv_aload_n hx hb dL_law_649 rfl (lv_at hl 1 rfl) ?_
    refine lv_iload hx hb dL_law_650 (lv_at hl 5 rfl) ?_
    refine lv_iconst (v := 2) hx hb dL_law_652 (by decide) ?_
    refine lv_iadd hx hb dL_law_653 ?_
    refine fz_sx X hW hX hbl hbA (i + 2) (nI_add i 2) (by omega) hL dL_law_654 ?_
    refine fz_cVi X hW (fz_C.lwM (c_X4_kind l g o w (xs (i + 1)) (xs (i + 2))) f a d v u q lf) lk_L_88 (ci := 4) (q0 := 36) rfl rfl rfl rfl ⟨(Nat.le_of_ble_eq_true rfl), (Nat.le_of_ble_eq_true rfl)⟩ hl rfl (Nat.le_of_ble_eq_true rfl) dL_law_655 (ce1 hcs (by omega) (by omega)) (fun H locs hW => ?_)
    generalize hw1 : maV w (xs (i + 1)) (xs (i + 2)) = w1 at hW t1 t3
    generalize hy1 : maR (xs (i + 1)) (xs (i + 2)) (mkI w) = y1
    refine lv_istore (lv' := [(6, .int y1), (5, .int (cd1 E)), (0, .ref b0), (1, .ref f), (2, .ref (o 0)), (3, .ref q), (4, .int (nI i))]) hx hb dL_law_658 hl (by decide) rfl (fun ls hl => ?_)
    refine lv_aload_n hx hb dL_law_660 rfl (lv_at hl 4 rfl) ?_
    refine fz_cVi X hW (fz_C.lwM (c_X4_thrown l g o w1) f a d v u q lf) lk_L_60 (ci := 4) (q0 := 36) rfl rfl rfl rfl ⟨(Nat.le_of_ble_eq_true rfl), (Nat.le_of_ble_eq_true rfl)⟩ hl rfl (Nat.le_of_ble_eq_true rfl) dL_law_661 (ce1 hcs (by omega) (by omega)) (fun H locs hW => ?_)
    refine lv_iload hx hb dL_law_664 (lv_at hl 1 rfl) ?_
    refine lv_icmp_eq (tgt := 671) hx hb dL_law_666 (by decide) (fun c1 => ?_) (fun c1 => absurd t1 c1)
    refine lv_iload hx hb dL_law_671 (lv_at hl 1 rfl) ?_
    refine lv_if_ne (tgt := 688) hx hb dL_law_673 (by decide) (fun c2 => ?_) (fun c2 => absurd c2 (cd1_0 E))
    refine lv_goto (tgt := 1006) hx hb dL_law_688 (by decide) ?_
    refine W.widen (k := cells + 5) (n := slots + 30) (by omega) (by omega) ?_
    exact kk v u lf w1 _ _ _ t3 hW (lv_sub hl [2, 3, 4, 5, 6] rfl)
set_option maxHeartbeats 4000000 in
set_option maxRecDepth 100000 in
theorem lc_since {p : Program} {l : Launch} {e : Env} {s : State} {m : MethodId} {args : Array Value} {below : List Frame} {meth : Method} {c : Code} {H : Heap} {locs : List Loc} {cells slots : Nat} {Q : State → Prop} {rt : Option FieldType} {g : GG} {A : Nat → Prop} {ls : Array Slot} {b0 L i K f q : Nat} {xs : Nat → Int32} {a d o : Nat → Nat} {v u : SV} {lf : Nat → Int64} {w : MV} (X : fz_X p s m meth c RL cL_law 7 rt g A) (Y : fz_Y s A) (hN : va_Nc XIA XIO s) (hfl : l.stackTraces = false) (hX : va_X b0 L xs s s.heap) (hbl : b0 < s.heap.size) (hbA : ¬ A b0) (hL : L ≤ 3584) (hi : i + 7 ≤ L) (hB : Both v w K) (hK : K ≤ 1000) (hcs : cells + 5 ≤ 601024 ∧ slots + 30 ≤ 7293034) (hW : fz_W g A s (LW g f a d v u q lf o w) H locs) (hl : lv_has ls 7 (lo5 b0 f (o 0) q i))
    (kk : ∀ (v u : SV) (lf : Nat → Int64) (w : MV) (H : Heap) (locs : List Loc) (ls : Array Slot), Both v w (K + 1) → fz_W g A s (LW g f a d v u q lf o w) H locs → lv_has ls 7 (lo5 b0 f (o 0) q i) → W p l e room_1 s m args below meth c H locs (cells + 5) (slots + 30) Q (F0 m 1006 ls [])) : W p l e room_1 s m args below meth c H locs cells slots Q (F0 m 691 ls []) := by
  have hx := X.1
  have hb := X.2.1
  have hl : lv_has ls 7 [(0, .ref b0), (1, .ref f), (2, .ref (o 0)), (3, .ref q), (4, .int (nI i))] := hl
  have pr := pr_ask hB hK (xs (i + 1)) (xs (i + 2)) hB.1.2.2.1
  refine lv_aload_n hx hb dL_law_691 rfl (lv_at hl 1 rfl) ?_
  refine lv_aload_n hx hb dL_law_692 rfl (lv_at hl 0 rfl) ?_
  refine lv_iload hx hb dL_law_693 (lv_at hl 4 rfl) ?_
  refine lv_iconst (v := 1) hx hb dL_law_695 (by decide) ?_
  refine lv_iadd hx hb dL_law_696 ?_
  refine fz_sx X hW hX hbl hbA (i + 1) (nI_add i 1) (by omega) hL dL_law_697 ?_
  refine lv_aload_n hx hb dL_law_698 rfl (lv_at hl 0 rfl) ?_
  refine lv_iload hx hb dL_law_699 (lv_at hl 4 rfl) ?_
  refine lv_iconst (v := 2) hx hb dL_law_701 (by decide) ?_
  refine lv_iadd hx hb dL_law_702 ?_
  refine fz_sx X hW hX hbl hbA (i + 2) (nI_add i 2) (by omega) hL dL_law_703 ?_
  refine lv_aload_n hx hb dL_law_704 rfl (lv_at hl 3 rfl) ?_
  rcases hex : exT (xs (i + 1)) (xs (i + 2)) with _ | E
  · skip
    obtain ⟨t1, t2, t3⟩ := pr.1 hex
    refine fz_cH X Y hN hW (fz_CH.lw (h_since l hfl g f a d v u q lf (xs (i + 1)) (xs (i + 2)) (FW g f a d (v) (u) ++ [LR g q (vp_updL lf 0 (v.since (tN (xs (i + 1)) (xs (i + 2)))).toInt64)]) 0 (fun _ => ⟨rfl, rfl⟩) (fun E z => by rw [hex] at z; cases z)) o w) lh_89 rfl ⟨(Nat.le_of_ble_eq_true rfl), (Nat.le_of_ble_eq_true rfl)⟩ hl rfl (Nat.le_of_ble_eq_true rfl) dL_law_705 (ce1 hcs (by omega) (by omega)) (fun H locs hW => ?_)
    generalize hx1 : v.since (tN (xs (i + 1)) (xs (i + 2))) = x1 at hW t2
    refine lv_istore (lv' := [(5, .int 0), (0, .ref b0), (1, .ref f), (2, .ref (o 0)), (3, .ref q), (4, .int (nI i))]) hx hb dL_law_708 hl (by decide) rfl (fun ls hl => ?_)
    refine lv_aload_n hx hb dL_law_710 rfl (lv_at hl 3 rfl) ?_
    refine lv_aload_n hx hb dL_law_711 rfl (lv_at hl 1 rfl) ?_
    refine lv_iload hx hb dL_law_712 (lv_at hl 5 rfl) ?_
    refine lv_iconst (v := 1) hx hb dL_law_714 (by decide) ?_
    refine lv_iadd hx hb dL_law_715 ?_
    refine fz_sx X hW hX hbl hbA (i + 1) (nI_add i 1) (by omega) hL dL_law_716 ?_
    refine lv_aload_n hx hb dL_law_717 rfl (lv_at hl 1 rfl) ?_
    refine lv_iload hx hb dL_law_718 (lv_at hl 5 rfl) ?_
    refine lv_iconst (v := 2) hx hb dL_law_720 (by decide) ?_
    refine lv_iadd hx hb dL_law_721 ?_
    refine fz_sx X hW hX hbl hbA (i + 2) (nI_add i 2) (by omega) hL dL_law_722 ?_
    refine fz_cVi X hW (fz_C.lwM (c_X4_since l g o w (xs (i + 1)) (xs (i + 2))) f a d v u q (vp_updL lf 0 x1.toInt64)) lk_L_91 (ci := 4) (q0 := 36) rfl rfl rfl rfl ⟨(Nat.le_of_ble_eq_true rfl), (Nat.le_of_ble_eq_true rfl)⟩ hl rfl (Nat.le_of_ble_eq_true rfl) dL_law_723 (ce1 hcs (by omega) (by omega)) (fun H locs hW => ?_)
    generalize hw1 : maV w (xs (i + 1)) (xs (i + 2)) = w1 at hW t1 t3
    generalize hy1 : maR (xs (i + 1)) (xs (i + 2)) w.since = y1 at t2 ⊢
    refine lv_istore (lv' := [(6, .int y1), (5, .int 0), (0, .ref b0), (1, .ref f), (2, .ref (o 0)), (3, .ref q), (4, .int (nI i))]) hx hb dL_law_726 hl (by decide) rfl (fun ls hl => ?_)
    refine lv_aload_n hx hb dL_law_728 rfl (lv_at hl 4 rfl) ?_
    refine fz_cVi X hW (fz_C.lwM (c_X4_thrown l g o w1) f a d v u q (vp_updL lf 0 x1.toInt64)) lk_L_60 (ci := 4) (q0 := 36) rfl rfl rfl rfl ⟨(Nat.le_of_ble_eq_true rfl), (Nat.le_of_ble_eq_true rfl)⟩ hl rfl (Nat.le_of_ble_eq_true rfl) dL_law_729 (ce1 hcs (by omega) (by omega)) (fun H locs hW => ?_)
    refine lv_iload hx hb dL_law_732 (lv_at hl 1 rfl) ?_
    refine lv_icmp_eq (tgt := 739) hx hb dL_law_734 (by decide) (fun c1 => ?_) (fun c1 => absurd t1 c1)
    refine lv_iload hx hb dL_law_739 (lv_at hl 1 rfl) ?_
    refine lv_if_ne (tgt := 756) hx hb dL_law_741 (by decide) (fun c2 => absurd rfl c2) (fun c2 => ?_)
    refine lv_aload_n hx hb dL_law_744 rfl (lv_at hl 5 rfl) ?_
    refine lv_iconst (v := 0) hx hb dL_law_745 (by decide) ?_
    refine fz_jl X hW 35 0 rfl rfl (by omega) (by decide) dL_law_746 ?_
    refine lv_iload hx hb dL_law_747 (lv_at hl 0 rfl) ?_
    refine lv_i2l hx hb dL_law_749 rfl ?_
    refine W.lcmp hx hb dL_law_750 ?_
    refine lv_if_eq (tgt := 756) hx hb dL_law_751 (by decide) (fun c3 => ?_) (fun c3 => absurd (lg_same (by rw [up_0, t2])) c3)
    refine lv_goto (tgt := 1006) hx hb dL_law_756 (by decide) ?_
    refine W.widen (k := cells + 5) (n := slots + 30) (by omega) (by omega) ?_
    exact kk v u (vp_updL lf 0 x1.toInt64) w1 _ _ _ t3 hW (lv_sub hl [2, 3, 4, 5, 6] rfl)
  · skip
    obtain ⟨t1, t3⟩ := pr.2 E hex
    refine fz_cH X Y hN hW (fz_CH.lw (h_since l hfl g f a d v u q lf (xs (i + 1)) (xs (i + 2)) (FW g f a d v u ++ [LR g q lf]) (cd1 E) (fun z => by rw [hex] at z; cases z) (fun E2 z => by rw [hex] at z; cases z; exact ⟨rfl, rfl⟩)) o w) lh_89 rfl ⟨(Nat.le_of_ble_eq_true rfl), (Nat.le_of_ble_eq_true rfl)⟩ hl rfl (Nat.le_of_ble_eq_true rfl) dL_law_705 (ce1 hcs (by omega) (by omega)) (fun H locs hW => ?_)
    refine lv_istore (lv' := [(5, .int (cd1 E)), (0, .ref b0), (1, .ref f), (2, .ref (o 0)), (3, .ref q), (4, .int (nI i))]) hx hb dL_law_708 hl (by decide) rfl (fun ls hl => ?_)
    refine lv_aload_n hx hb dL_law_710 rfl (lv_at hl 3 rfl) ?_
    refine lv_aload_n hx hb dL_law_711 rfl (lv_at hl 1 rfl) ?_
    refine lv_iload hx hb dL_law_712 (lv_at hl 5 rfl) ?_
    refine lv_iconst (v := 1) hx hb dL_law_714 (by decide) ?_
    refine lv_iadd hx hb dL_law_715 ?_
    refine fz_sx X hW hX hbl hbA (i + 1) (nI_add i 1) (by omega) hL dL_law_716 ?_
    refine lv_aload_n hx hb dL_law_717 rfl (lv_at hl 1 rfl) ?_
    refine lv_iload hx hb dL_law_718 (lv_at hl 5 rfl) ?_
    refine lv_iconst (v := 2) hx hb dL_law_720 (by decide) ?_
    refine lv_iadd hx hb dL_law_721 ?_
    refine fz_sx X hW hX hbl hbA (i + 2) (nI_add i 2) (by omega) hL dL_law_722 ?_
    refine fz_cVi X hW (fz_C.lwM (c_X4_since l g o w (xs (i + 1)) (xs (i + 2))) f a d v u q lf) lk_L_91 (ci := 4) (q0 := 36) rfl rfl rfl rfl ⟨(Nat.le_of_ble_eq_true rfl), (Nat.le_of_ble_eq_true rfl)⟩ hl rfl (Nat.le_of_ble_eq_true rfl) dL_law_723 (ce1 hcs (by omega) (by omega)) (fun H locs hW => ?_)
    generalize hw1 : maV w (xs (i + 1)) (xs (i + 2)) = w1 at hW t1 t3
    generalize hy1 : maR (xs (i + 1)) (xs (i + 2)) w.since = y1
    refine lv_istore (lv' := [(6, .int y1), (5, .int (cd1 E)), (0, .ref b0), (1, .ref f), (2, .ref (o 0)), (3, .ref q), (4, .int (nI i))]) hx hb dL_law_726 hl (by decide) rfl (fun ls hl => ?_)
    refine lv_aload_n hx hb dL_law_728 rfl (lv_at hl 4 rfl) ?_
    refine fz_cVi X hW (fz_C.lwM (c_X4_thrown l g o w1) f a d v u q lf) lk_L_60 (ci := 4) (q0 := 36) rfl rfl rfl rfl ⟨(Nat.le_of_ble_eq_true rfl), (Nat.le_of_ble_eq_true rfl)⟩ hl rfl (Nat.le_of_ble_eq_true rfl) dL_law_729 (ce1 hcs (by omega) (by omega)) (fun H locs hW => ?_)
    refine lv_iload hx hb dL_law_732 (lv_at hl 1 rfl) ?_
    refine lv_icmp_eq (tgt := 739) hx hb dL_law_734 (by decide) (fun c1 => ?_) (fun c1 => absurd t1 c1)
    refine lv_iload hx hb dL_law_739 (lv_at hl 1 rfl) ?_
    refine lv_if_ne (tgt := 756) hx hb dL_law_741 (by decide) (fun c2 => ?_) (fun c2 => absurd c2 (cd1_0 E))
    refine lv_goto (tgt := 1006) hx hb dL_law_756 (by decide) ?_
    refine W.widen (k := cells + 5) (n := slots + 30) (by omega) (by omega) ?_
    exact kk v u lf w1 _ _ _ t3 hW (lv_sub hl [2, 3, 4, 5, 6] rfl)
