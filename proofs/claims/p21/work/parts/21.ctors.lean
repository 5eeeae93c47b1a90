set_option maxHeartbeats 4000000 in
set_option maxRecDepth 100000 in
theorem c_X0_init (l : Launch) (g : GG) (h0 : Nat) : fz_CN l g yX0_init cX0_init 1 1 0 0 24 [.ref h0] [(h0, .inr (0, [.int 0, .int 0, .int 0, .int 0, .int 0, .int 0]))] (fun W => W = [(h0, .inr (0, [.int 0, .int 0, .int 0, .int 0, .int 0, .int 0]))]) := by
  refine fz_CN.of (by decide) (Nat.le_of_ble_eq_true rfl) ?_
  intro p e s m args below meth c A ls X hin hW hl
  have hx := X.1
  have hb := X.2.1
  have hl : lv_has ls 1 [(0, .ref h0)] := hl
  have X : fz_X p s m meth c RX0 cX0_init 1 none g A := X
  have hin : meth.name = "<init>" := hin
  have hW : fz_W g A s [(h0, .inr (0, [.int 0, .int 0, .int 0, .int 0, .int 0, .int 0]))] s.heap _ := hW
  refine lv_aload_n hx hb dX0_init_0 rfl (lv_at hl 0 rfl) ?_
  refine fz_oi X hl oi_X0 oi_i oi_c (Nat.le_of_ble_eq_true rfl) (Nat.le_of_ble_eq_true rfl) dX0_init_1 ?_
  exact fz_rvN X hW rfl ⟨(Nat.le_of_ble_eq_true rfl), (Nat.le_of_ble_eq_true rfl)⟩ dX0_init_4
set_option maxHeartbeats 4000000 in
set_option maxRecDepth 100000 in
theorem c_X1_init (l : Launch) (g : GG) (h0 : Nat) : fz_CN l g yX1_init cX1_init 1 1 1 8 24 [.ref h0] [(h0, .inr (1, [.null, .int 0]))] (fun W => ∃ q : Nat, W = [(h0, .inr (1, [.ref q, .int 0])), (q, .inl (g.2 0, 8, .inl (fun _ => 0)))]) := by
  refine fz_CN.of (by decide) (Nat.le_of_ble_eq_true rfl) ?_
  intro p e s m args below meth c A ls X hin hW hl
  have hx := X.1
  have hb := X.2.1
  have hl : lv_has ls 1 [(0, .ref h0)] := hl
  have X : fz_X p s m meth c RX1 cX1_init 1 none g A := X
  have hin : meth.name = "<init>" := hin
  have hW : fz_W g A s [(h0, .inr (1, [.null, .int 0]))] s.heap _ := hW
  refine lv_aload_n hx hb dX1_init_0 rfl (lv_at hl 0 rfl) ?_
  refine fz_oi X hl oi_X1 oi_i oi_c (Nat.le_of_ble_eq_true rfl) (Nat.le_of_ble_eq_true rfl) dX1_init_1 ?_
  refine lv_aload_n hx hb dX1_init_4 rfl (lv_at hl 0 rfl) ?_
  refine lv_bipush (v := 8) hx hb dX1_init_5 (by decide) ?_
  refine fz_ni X hW (atype := .int) (ty := .int) rfl ar_i 0 rfl (fun _ _ h => h) (N' := 8) (a0 := (8, .inl (fun _ => 0))) (fun _ => rfl) (by decide) rfl (Nat.le_of_ble_eq_true rfl) (Nat.le_of_ble_eq_true rfl) (Nat.le_of_ble_eq_true rfl) dX1_init_7 (fun q1 H hW => ?_)
  have hW : fz_W g A s [(h0, .inr (1, [.null, .int 0])), (q1, .inl (g.2 0, 8, .inl (fun _ => 0)))] H _ := hW
  refine qf_X1_9 X hin hW 0 rfl (Nat.le_of_ble_eq_true rfl) dX1_init_9 (fun H locs hW => ?_)
  have hW : fz_W g A s [(h0, .inr (1, [.ref q1, .int 0])), (q1, .inl (g.2 0, 8, .inl (fun _ => 0)))] H _ := hW
  refine lv_aload_n hx hb dX1_init_12 rfl (lv_at hl 0 rfl) ?_
  refine lv_iconst (v := 0) hx hb dX1_init_13 (by decide) ?_
  refine pf_X1_15 X hW 0 rfl (Nat.le_of_ble_eq_true rfl) dX1_init_14 (fun H locs hW => ?_)
  have hW : fz_W g A s [(h0, .inr (1, [.ref q1, .int 0])), (q1, .inl (g.2 0, 8, .inl (fun _ => 0)))] H _ := hW
  exact fz_rvN X hW ⟨_, rfl⟩ ⟨(Nat.le_of_ble_eq_true rfl), (Nat.le_of_ble_eq_true rfl)⟩ dX1_init_17
def SV0 : SV := SV.mk9 (fun _ => 0) (fun _ => 0) (fz_to (fun _ => -1) (fun _ => 0) 48) (fun _ => 0) (fun _ => 0) (fun _ => 0) (fun _ => 0) (fun _ _ => 0) 0 (fun _ => 0) 0 (fun _ => 0) 0 0 0
theorem va_up5 (a : Nat → Nat) : va_up (va_up (va_up (va_up (va_up (fun _ => none) 0 (some (a 12))) 1 (some (a 13))) 2 (some (a 14))) 3 (some (a 15))) 4 (some (a 16)) = (fun j => if j < 5 then some (a (12 + j)) else none) := by
  funext j
  rcases (show j = 0 ∨ j = 1 ∨ j = 2 ∨ j = 3 ∨ j = 4 ∨ 5 ≤ j by omega) with rfl | rfl | rfl | rfl | rfl | h
  · rfl
  · rfl
  · rfl
  · rfl
  · rfl
  · show (if j = 4 then _ else if j = 3 then _ else if j = 2 then _ else if j = 1 then _ else if j = 0 then _ else none) = (if j < 5 then some (a (12 + j)) else none)
    rw [if_neg (show ¬ j = 4 by omega), if_neg (show ¬ j = 3 by omega), if_neg (show ¬ j = 2 by omega), if_neg (show ¬ j = 1 by omega), if_neg (show ¬ j = 0 by omega), if_neg (show ¬ j < 5 by omega)]
set_option maxHeartbeats 4000000 in
set_option maxRecDepth 100000 in
theorem c_X2_init (l : Launch) (g : GG) (h0 : Nat) : fz_CN l g yX2_init cX2_init 2 2 16 385 44 [.ref h0] [(h0, .inr (2, [.null, .null, .null, .null, .null, .null, .null, .null, .int 0, .null, .null, .int 0, .int 0, .int 0]))] (fun W => ∃ a : Nat → Nat, a 0 = h0 ∧ W = SW g a SV0) := by
  refine fz_CN.of (by decide) (Nat.le_of_ble_eq_true rfl) ?_
  intro p e s m args below meth c A ls X hin hW hl
  have hx := X.1
  have hb := X.2.1
  have hl : lv_has ls 2 [(0, .ref h0)] := hl
  have X : fz_X p s m meth c RX2 cX2_init 2 none g A := X
  have hin : meth.name = "<init>" := hin
  have hW : fz_W g A s [(h0, .inr (2, [.null, .null, .null, .null, .null, .null, .null, .null, .int 0, .null, .null, .int 0, .int 0, .int 0]))] s.heap _ := hW
  refine lv_aload_n hx hb dX2_init_0 rfl (lv_at hl 0 rfl) ?_
  refine fz_oi X hl oi_X2 oi_i oi_c (Nat.le_of_ble_eq_true rfl) (Nat.le_of_ble_eq_true rfl) dX2_init_1 ?_
  refine lv_aload_n hx hb dX2_init_4 rfl (lv_at hl 0 rfl) ?_
  refine lv_bipush (v := 48) hx hb dX2_init_5 (by decide) ?_
  refine fz_ni X hW (atype := .int) (ty := .int) rfl ar_i 0 rfl (fun _ _ h => h) (N' := 48) (a0 := (48, .inl (fun _ => 0))) (fun _ => rfl) (by decide) rfl (Nat.le_of_ble_eq_true rfl) (Nat.le_of_ble_eq_true rfl) (Nat.le_of_ble_eq_true rfl) dX2_init_7 (fun q1 H hW => ?_)
  have hW : fz_W g A s [(h0, .inr (2, [.null, .null, .null, .null, .null, .null, .null, .null, .int 0, .null, .null, .int 0, .int 0, .int 0])), (q1, .inl (g.2 0, 48, .inl (fun _ => 0)))] H _ := hW
  refine qf_X2_9 X hin hW 0 rfl (Nat.le_of_ble_eq_true rfl) dX2_init_9 (fun H locs hW => ?_)
  have hW : fz_W g A s [(h0, .inr (2, [.ref q1, .null, .null, .null, .null, .null, .null, .null, .int 0, .null, .null, .int 0, .int 0, .int 0])), (q1, .inl (g.2 0, 48, .inl (fun _ => 0)))] H _ := hW
  refine lv_aload_n hx hb dX2_init_12 rfl (lv_at hl 0 rfl) ?_
  refine lv_bipush (v := 48) hx hb dX2_init_13 (by decide) ?_
  refine fz_ni X hW (atype := .int) (ty := .int) rfl ar_i 0 rfl (fun _ _ h => h) (N' := 48) (a0 := (48, .inl (fun _ => 0))) (fun _ => rfl) (by decide) rfl (Nat.le_of_ble_eq_true rfl) (Nat.le_of_ble_eq_true rfl) (Nat.le_of_ble_eq_true rfl) dX2_init_15 (fun q2 H hW => ?_)
  have hW : fz_W g A s [(h0, .inr (2, [.ref q1, .null, .null, .null, .null, .null, .null, .null, .int 0, .null, .null, .int 0, .int 0, .int 0])), (q1, .inl (g.2 0, 48, .inl (fun _ => 0))), (q2, .inl (g.2 0, 48, .inl (fun _ => 0)))] H _ := hW
  refine qf_X2_15 X hin hW 0 rfl (Nat.le_of_ble_eq_true rfl) dX2_init_17 (fun H locs hW => ?_)
  have hW : fz_W g A s [(h0, .inr (2, [.ref q1, .ref q2, .null, .null, .null, .null, .null, .null, .int 0, .null, .null, .int 0, .int 0, .int 0])), (q1, .inl (g.2 0, 48, .inl (fun _ => 0))), (q2, .inl (g.2 0, 48, .inl (fun _ => 0)))] H _ := hW
  refine lv_aload_n hx hb dX2_init_20 rfl (lv_at hl 0 rfl) ?_
  refine lv_bipush (v := 48) hx hb dX2_init_21 (by decide) ?_
  refine fz_ni X hW (atype := .int) (ty := .int) rfl ar_i 0 rfl (fun _ _ h => h) (N' := 48) (a0 := (48, .inl (fun _ => 0))) (fun _ => rfl) (by decide) rfl (Nat.le_of_ble_eq_true rfl) (Nat.le_of_ble_eq_true rfl) (Nat.le_of_ble_eq_true rfl) dX2_init_23 (fun q3 H hW => ?_)
  have hW : fz_W g A s [(h0, .inr (2, [.ref q1, .ref q2, .null, .null, .null, .null, .null, .null, .int 0, .null, .null, .int 0, .int 0, .int 0])), (q1, .inl (g.2 0, 48, .inl (fun _ => 0))), (q2, .inl (g.2 0, 48, .inl (fun _ => 0))), (q3, .inl (g.2 0, 48, .inl (fun _ => 0)))] H _ := hW
  refine qf_X2_18 X hin hW 0 rfl (Nat.le_of_ble_eq_true rfl) dX2_init_25 (fun H locs hW => ?_)
  have hW : fz_W g A s [(h0, .inr (2, [.ref q1, .ref q2, .ref q3, .null, .null, .null, .null, .null, .int 0, .null, .null, .int 0, .int 0, .int 0])), (q1, .inl (g.2 0, 48, .inl (fun _ => 0))), (q2, .inl (g.2 0, 48, .inl (fun _ => 0))), (q3, .inl (g.2 0, 48, .inl (fun _ => 0)))] H _ := hW
  refine lv_aload_n hx hb dX2_init_28 rfl (lv_at hl 0 rfl) ?_
  refine lv_bipush (v := 48) hx hb dX2_init_29 (by decide) ?_
  refine fz_ni X hW (atype := .int) (ty := .int) rfl ar_i 0 rfl (fun _ _ h => h) (N' := 48) (a0 := (48, .inl (fun _ => 0))) (fun _ => rfl) (by decide) rfl (Nat.le_of_ble_eq_true rfl) (Nat.le_of_ble_eq_true rfl) (Nat.le_of_ble_eq_true rfl) dX2_init_31 (fun q4 H hW => ?_)
  have hW : fz_W g A s [(h0, .inr (2, [.ref q1, .ref q2, .ref q3, .null, .null, .null, .null, .null, .int 0, .null, .null, .int 0, .int 0, .int 0])), (q1, .inl (g.2 0, 48, .inl (fun _ => 0))), (q2, .inl (g.2 0, 48, .inl (fun _ => 0))), (q3, .inl (g.2 0, 48, .inl (fun _ => 0))), (q4, .inl (g.2 0, 48, .inl (fun _ => 0)))] H _ := hW
  refine qf_X2_21 X hin hW 0 rfl (Nat.le_of_ble_eq_true rfl) dX2_init_33 (fun H locs hW => ?_)
  have hW : fz_W g A s [(h0, .inr (2, [.ref q1, .ref q2, .ref q3, .ref q4, .null, .null, .null, .null, .int 0, .null, .null, .int 0, .int 0, .int 0])), (q1, .inl (g.2 0, 48, .inl (fun _ => 0))), (q2, .inl (g.2 0, 48, .inl (fun _ => 0))), (q3, .inl (g.2 0, 48, .inl (fun _ => 0))), (q4, .inl (g.2 0, 48, .inl (fun _ => 0)))] H _ := hW
  refine lv_aload_n hx hb dX2_init_36 rfl (lv_at hl 0 rfl) ?_
  refine lv_bipush (v := 48) hx hb dX2_init_37 (by decide) ?_
  refine fz_ni X hW (atype := .int) (ty := .int) rfl ar_i 0 rfl (fun _ _ h => h) (N' := 48) (a0 := (48, .inl (fun _ => 0))) (fun _ => rfl) (by decide) rfl (Nat.le_of_ble_eq_true rfl) (Nat.le_of_ble_eq_true rfl) (Nat.le_of_ble_eq_true rfl) dX2_init_39 (fun q5 H hW => ?_)
  have hW : fz_W g A s [(h0, .inr (2, [.ref q1, .ref q2, .ref q3, .ref q4, .null, .null, .null, .null, .int 0, .null, .null, .int 0, .int 0, .int 0])), (q1, .inl (g.2 0, 48, .inl (fun _ => 0))), (q2, .inl (g.2 0, 48, .inl (fun _ => 0))), (q3, .inl (g.2 0, 48, .inl (fun _ => 0))), (q4, .inl (g.2 0, 48, .inl (fun _ => 0))), (q5, .inl (g.2 0, 48, .inl (fun _ => 0)))] H _ := hW
  refine qf_X2_24 X hin hW 0 rfl (Nat.le_of_ble_eq_true rfl) dX2_init_41 (fun H locs hW => ?_)
  have hW : fz_W g A s [(h0, .inr (2, [.ref q1, .ref q2, .ref q3, .ref q4, .ref q5, .null, .null, .null, .int 0, .null, .null, .int 0, .int 0, .int 0])), (q1, .inl (g.2 0, 48, .inl (fun _ => 0))), (q2, .inl (g.2 0, 48, .inl (fun _ => 0))), (q3, .inl (g.2 0, 48, .inl (fun _ => 0))), (q4, .inl (g.2 0, 48, .inl (fun _ => 0))), (q5, .inl (g.2 0, 48, .inl (fun _ => 0)))] H _ := hW
  refine lv_aload_n hx hb dX2_init_44 rfl (lv_at hl 0 rfl) ?_
  refine lv_bipush (v := 48) hx hb dX2_init_45 (by decide) ?_
  refine fz_ni X hW (atype := .int) (ty := .int) rfl ar_i 0 rfl (fun _ _ h => h) (N' := 48) (a0 := (48, .inl (fun _ => 0))) (fun _ => rfl) (by decide) rfl (Nat.le_of_ble_eq_true rfl) (Nat.le_of_ble_eq_true rfl) (Nat.le_of_ble_eq_true rfl) dX2_init_47 (fun q6 H hW => ?_)
  have hW : fz_W g A s [(h0, .inr (2, [.ref q1, .ref q2, .ref q3, .ref q4, .ref q5, .null, .null, .null, .int 0, .null, .null, .int 0, .int 0, .int 0])), (q1, .inl (g.2 0, 48, .inl (fun _ => 0))), (q2, .inl (g.2 0, 48, .inl (fun _ => 0))), (q3, .inl (g.2 0, 48, .inl (fun _ => 0))), (q4, .inl (g.2 0, 48, .inl (fun _ => 0))), (q5, .inl (g.2 0, 48, .inl (fun _ => 0))), (q6, .inl (g.2 0, 48, .inl (fun _ => 0)))] H _ := hW
  refine qf_X2_27 X hin hW 0 rfl (Nat.le_of_ble_eq_true rfl) dX2_init_49 (fun H locs hW => ?_)
  have hW : fz_W g A s [(h0, .inr (2, [.ref q1, .ref q2, .ref q3, .ref q4, .ref q5, .ref q6, .null, .null, .int 0, .null, .null, .int 0, .int 0, .int 0])), (q1, .inl (g.2 0, 48, .inl (fun _ => 0))), (q2, .inl (g.2 0, 48, .inl (fun _ => 0))), (q3, .inl (g.2 0, 48, .inl (fun _ => 0))), (q4, .inl (g.2 0, 48, .inl (fun _ => 0))), (q5, .inl (g.2 0, 48, .inl (fun _ => 0))), (q6, .inl (g.2 0, 48, .inl (fun _ => 0)))] H _ := hW
  refine lv_aload_n hx hb dX2_init_52 rfl (lv_at hl 0 rfl) ?_
  refine lv_bipush (v := 48) hx hb dX2_init_53 (by decide) ?_
  refine fz_ni X hW (atype := .int) (ty := .int) rfl ar_i 0 rfl (fun _ _ h => h) (N' := 48) (a0 := (48, .inl (fun _ => 0))) (fun _ => rfl) (by decide) rfl (Nat.le_of_ble_eq_true rfl) (Nat.le_of_ble_eq_true rfl) (Nat.le_of_ble_eq_true rfl) dX2_init_55 (fun q7 H hW => ?_)
  have hW : fz_W g A s [(h0, .inr (2, [.ref q1, .ref q2, .ref q3, .ref q4, .ref q5, .ref q6, .null, .null, .int 0, .null, .null, .int 0, .int 0, .int 0])), (q1, .inl (g.2 0, 48, .inl (fun _ => 0))), (q2, .inl (g.2 0, 48, .inl (fun _ => 0))), (q3, .inl (g.2 0, 48, .inl (fun _ => 0))), (q4, .inl (g.2 0, 48, .inl (fun _ => 0))), (q5, .inl (g.2 0, 48, .inl (fun _ => 0))), (q6, .inl (g.2 0, 48, .inl (fun _ => 0))), (q7, .inl (g.2 0, 48, .inl (fun _ => 0)))] H _ := hW
  refine qf_X2_30 X hin hW 0 rfl (Nat.le_of_ble_eq_true rfl) dX2_init_57 (fun H locs hW => ?_)
  have hW : fz_W g A s [(h0, .inr (2, [.ref q1, .ref q2, .ref q3, .ref q4, .ref q5, .ref q6, .ref q7, .null, .int 0, .null, .null, .int 0, .int 0, .int 0])), (q1, .inl (g.2 0, 48, .inl (fun _ => 0))), (q2, .inl (g.2 0, 48, .inl (fun _ => 0))), (q3, .inl (g.2 0, 48, .inl (fun _ => 0))), (q4, .inl (g.2 0, 48, .inl (fun _ => 0))), (q5, .inl (g.2 0, 48, .inl (fun _ => 0))), (q6, .inl (g.2 0, 48, .inl (fun _ => 0))), (q7, .inl (g.2 0, 48, .inl (fun _ => 0)))] H _ := hW
  refine lv_aload_n hx hb dX2_init_60 rfl (lv_at hl 0 rfl) ?_
  refine lv_iconst (v := 5) hx hb dX2_init_61 (by decide) ?_
  refine fz_nq X hW cl_X2_33 ar_q 3 rfl (N' := 5) (by decide) rfl (Nat.le_of_ble_eq_true rfl) (Nat.le_of_ble_eq_true rfl) (Nat.le_of_ble_eq_true rfl) dX2_init_62 (fun q8 H hW => ?_)
  have hW : fz_W g A s [(h0, .inr (2, [.ref q1, .ref q2, .ref q3, .ref q4, .ref q5, .ref q6, .ref q7, .null, .int 0, .null, .null, .int 0, .int 0, .int 0])), (q1, .inl (g.2 0, 48, .inl (fun _ => 0))), (q2, .inl (g.2 0, 48, .inl (fun _ => 0))), (q3, .inl (g.2 0, 48, .inl (fun _ => 0))), (q4, .inl (g.2 0, 48, .inl (fun _ => 0))), (q5, .inl (g.2 0, 48, .inl (fun _ => 0))), (q6, .inl (g.2 0, 48, .inl (fun _ => 0))), (q7, .inl (g.2 0, 48, .inl (fun _ => 0))), (q8, .inl (g.2 3, 5, .inr (.inr (.inr (.inr (fun _ => none))))))] H _ := hW
  refine qf_X2_35 X hin hW 0 rfl (Nat.le_of_ble_eq_true rfl) dX2_init_65 (fun H locs hW => ?_)
  have hW : fz_W g A s [(h0, .inr (2, [.ref q1, .ref q2, .ref q3, .ref q4, .ref q5, .ref q6, .ref q7, .ref q8, .int 0, .null, .null, .int 0, .int 0, .int 0])), (q1, .inl (g.2 0, 48, .inl (fun _ => 0))), (q2, .inl (g.2 0, 48, .inl (fun _ => 0))), (q3, .inl (g.2 0, 48, .inl (fun _ => 0))), (q4, .inl (g.2 0, 48, .inl (fun _ => 0))), (q5, .inl (g.2 0, 48, .inl (fun _ => 0))), (q6, .inl (g.2 0, 48, .inl (fun _ => 0))), (q7, .inl (g.2 0, 48, .inl (fun _ => 0))), (q8, .inl (g.2 3, 5, .inr (.inr (.inr (.inr (fun _ => none))))))] H _ := hW
  refine lv_aload_n hx hb dX2_init_68 rfl (lv_at hl 0 rfl) ?_
  refine lv_iconst (v := 0) hx hb dX2_init_69 (by decide) ?_
  refine pf_X2_39 X hW 0 rfl (Nat.le_of_ble_eq_true rfl) dX2_init_70 (fun H locs hW => ?_)
  have hW : fz_W g A s [(h0, .inr (2, [.ref q1, .ref q2, .ref q3, .ref q4, .ref q5, .ref q6, .ref q7, .ref q8, .int 0, .null, .null, .int 0, .int 0, .int 0])), (q1, .inl (g.2 0, 48, .inl (fun _ => 0))), (q2, .inl (g.2 0, 48, .inl (fun _ => 0))), (q3, .inl (g.2 0, 48, .inl (fun _ => 0))), (q4, .inl (g.2 0, 48, .inl (fun _ => 0))), (q5, .inl (g.2 0, 48, .inl (fun _ => 0))), (q6, .inl (g.2 0, 48, .inl (fun _ => 0))), (q7, .inl (g.2 0, 48, .inl (fun _ => 0))), (q8, .inl (g.2 3, 5, .inr (.inr (.inr (.inr (fun _ => none))))))] H _ := hW
  refine lv_aload_n hx hb dX2_init_73 rfl (lv_at hl 0 rfl) ?_
  refine fz_nw X hW (ci := 1) (fs := [.null, .int 0]) inX1 rfl tyX1 tyX1_ok cl_X2_43 ib_X1 ii_X1 (fun j hj => by rcases (show j = 0 ∨ j = 1 by omega) with rfl | rfl <;> rfl) (Nat.le_of_ble_eq_true rfl) (Nat.le_of_ble_eq_true rfl) dX2_init_74 (fun q9 H hW => ?_)
  have hW : fz_W g A s [(h0, .inr (2, [.ref q1, .ref q2, .ref q3, .ref q4, .ref q5, .ref q6, .ref q7, .ref q8, .int 0, .null, .null, .int 0, .int 0, .int 0])), (q1, .inl (g.2 0, 48, .inl (fun _ => 0))), (q2, .inl (g.2 0, 48, .inl (fun _ => 0))), (q3, .inl (g.2 0, 48, .inl (fun _ => 0))), (q4, .inl (g.2 0, 48, .inl (fun _ => 0))), (q5, .inl (g.2 0, 48, .inl (fun _ => 0))), (q6, .inl (g.2 0, 48, .inl (fun _ => 0))), (q7, .inl (g.2 0, 48, .inl (fun _ => 0))), (q8, .inl (g.2 3, 5, .inr (.inr (.inr (.inr (fun _ => none)))))), (q9, .inr (1, [.null, .int 0]))] H _ := hW
  refine lv_dup hx hb dX2_init_77 rfl ?_
  refine fz_cJ X hW (wc := [(q9, .inr (1, [.null, .int 0]))]) (wr := [(h0, .inr (2, [.ref q1, .ref q2, .ref q3, .ref q4, .ref q5, .ref q6, .ref q7, .ref q8, .int 0, .null, .null, .int 0, .int 0, .int 0])), (q1, .inl (g.2 0, 48, .inl (fun _ => 0))), (q2, .inl (g.2 0, 48, .inl (fun _ => 0))), (q3, .inl (g.2 0, 48, .inl (fun _ => 0))), (q4, .inl (g.2 0, 48, .inl (fun _ => 0))), (q5, .inl (g.2 0, 48, .inl (fun _ => 0))), (q6, .inl (g.2 0, 48, .inl (fun _ => 0))), (q7, .inl (g.2 0, 48, .inl (fun _ => 0))), (q8, .inl (g.2 3, 5, .inr (.inr (.inr (.inr (fun _ => none))))))]) [9] [0, 1, 2, 3, 4, 5, 6, 7, 8] (c_X1_init l g q9) lk_X2_45 rfl rfl rfl (by decide) (by decide) ⟨(Nat.le_of_ble_eq_true rfl), (Nat.le_of_ble_eq_true rfl)⟩ hl (Nat.le_of_ble_eq_true rfl) dX2_init_78 ⟨(Nat.le_of_ble_eq_true rfl), (Nat.le_of_ble_eq_true rfl)⟩ (fun W1 H locs hK hW => ?_)
  obtain ⟨q10, rfl⟩ := hK
  have hW : fz_W g A s [(h0, .inr (2, [.ref q1, .ref q2, .ref q3, .ref q4, .ref q5, .ref q6, .ref q7, .ref q8, .int 0, .null, .null, .int 0, .int 0, .int 0])), (q1, .inl (g.2 0, 48, .inl (fun _ => 0))), (q2, .inl (g.2 0, 48, .inl (fun _ => 0))), (q3, .inl (g.2 0, 48, .inl (fun _ => 0))), (q4, .inl (g.2 0, 48, .inl (fun _ => 0))), (q5, .inl (g.2 0, 48, .inl (fun _ => 0))), (q6, .inl (g.2 0, 48, .inl (fun _ => 0))), (q7, .inl (g.2 0, 48, .inl (fun _ => 0))), (q8, .inl (g.2 3, 5, .inr (.inr (.inr (.inr (fun _ => none)))))), (q9, .inr (1, [.ref q10, .int 0])), (q10, .inl (g.2 0, 8, .inl (fun _ => 0)))] H _ := hW
  refine qf_X2_46 X hin hW 0 rfl (Nat.le_of_ble_eq_true rfl) dX2_init_81 (fun H locs hW => ?_)
  have hW : fz_W g A s [(h0, .inr (2, [.ref q1, .ref q2, .ref q3, .ref q4, .ref q5, .ref q6, .ref q7, .ref q8, .int 0, .ref q9, .null, .int 0, .int 0, .int 0])), (q1, .inl (g.2 0, 48, .inl (fun _ => 0))), (q2, .inl (g.2 0, 48, .inl (fun _ => 0))), (q3, .inl (g.2 0, 48, .inl (fun _ => 0))), (q4, .inl (g.2 0, 48, .inl (fun _ => 0))), (q5, .inl (g.2 0, 48, .inl (fun _ => 0))), (q6, .inl (g.2 0, 48, .inl (fun _ => 0))), (q7, .inl (g.2 0, 48, .inl (fun _ => 0))), (q8, .inl (g.2 3, 5, .inr (.inr (.inr (.inr (fun _ => none)))))), (q9, .inr (1, [.ref q10, .int 0])), (q10, .inl (g.2 0, 8, .inl (fun _ => 0)))] H _ := hW
  refine lv_aload_n hx hb dX2_init_84 rfl (lv_at hl 0 rfl) ?_
  refine lv_iconst (v := 4) hx hb dX2_init_85 (by decide) ?_
  refine fz_ni X hW (atype := .int) (ty := .int) rfl ar_i 0 rfl (fun _ _ h => h) (N' := 4) (a0 := (4, .inl (fun _ => 0))) (fun _ => rfl) (by decide) rfl (Nat.le_of_ble_eq_true rfl) (Nat.le_of_ble_eq_true rfl) (Nat.le_of_ble_eq_true rfl) dX2_init_86 (fun q11 H hW => ?_)
  have hW : fz_W g A s [(h0, .inr (2, [.ref q1, .ref q2, .ref q3, .ref q4, .ref q5, .ref q6, .ref q7, .ref q8, .int 0, .ref q9, .null, .int 0, .int 0, .int 0])), (q1, .inl (g.2 0, 48, .inl (fun _ => 0))), (q2, .inl (g.2 0, 48, .inl (fun _ => 0))), (q3, .inl (g.2 0, 48, .inl (fun _ => 0))), (q4, .inl (g.2 0, 48, .inl (fun _ => 0))), (q5, .inl (g.2 0, 48, .inl (fun _ => 0))), (q6, .inl (g.2 0, 48, .inl (fun _ => 0))), (q7, .inl (g.2 0, 48, .inl (fun _ => 0))), (q8, .inl (g.2 3, 5, .inr (.inr (.inr (.inr (fun _ => none)))))), (q9, .inr (1, [.ref q10, .int 0])), (q10, .inl (g.2 0, 8, .inl (fun _ => 0))), (q11, .inl (g.2 0, 4, .inl (fun _ => 0)))] H _ := hW
  refine qf_X2_50 X hin hW 0 rfl (Nat.le_of_ble_eq_true rfl) dX2_init_88 (fun H locs hW => ?_)
  have hW : fz_W g A s [(h0, .inr (2, [.ref q1, .ref q2, .ref q3, .ref q4, .ref q5, .ref q6, .ref q7, .ref q8, .int 0, .ref q9, .ref q11, .int 0, .int 0, .int 0])), (q1, .inl (g.2 0, 48, .inl (fun _ => 0))), (q2, .inl (g.2 0, 48, .inl (fun _ => 0))), (q3, .inl (g.2 0, 48, .inl (fun _ => 0))), (q4, .inl (g.2 0, 48, .inl (fun _ => 0))), (q5, .inl (g.2 0, 48, .inl (fun _ => 0))), (q6, .inl (g.2 0, 48, .inl (fun _ => 0))), (q7, .inl (g.2 0, 48, .inl (fun _ => 0))), (q8, .inl (g.2 3, 5, .inr (.inr (.inr (.inr (fun _ => none)))))), (q9, .inr (1, [.ref q10, .int 0])), (q10, .inl (g.2 0, 8, .inl (fun _ => 0))), (q11, .inl (g.2 0, 4, .inl (fun _ => 0)))] H _ := hW
  refine lv_aload_n hx hb dX2_init_91 rfl (lv_at hl 0 rfl) ?_
  refine lv_iconst (v := 0) hx hb dX2_init_92 (by decide) ?_
  refine pf_X2_53 X hW 0 rfl (Nat.le_of_ble_eq_true rfl) dX2_init_93 (fun H locs hW => ?_)
  have hW : fz_W g A s [(h0, .inr (2, [.ref q1, .ref q2, .ref q3, .ref q4, .ref q5, .ref q6, .ref q7, .ref q8, .int 0, .ref q9, .ref q11, .int 0, .int 0, .int 0])), (q1, .inl (g.2 0, 48, .inl (fun _ => 0))), (q2, .inl (g.2 0, 48, .inl (fun _ => 0))), (q3, .inl (g.2 0, 48, .inl (fun _ => 0))), (q4, .inl (g.2 0, 48, .inl (fun _ => 0))), (q5, .inl (g.2 0, 48, .inl (fun _ => 0))), (q6, .inl (g.2 0, 48, .inl (fun _ => 0))), (q7, .inl (g.2 0, 48, .inl (fun _ => 0))), (q8, .inl (g.2 3, 5, .inr (.inr (.inr (.inr (fun _ => none)))))), (q9, .inr (1, [.ref q10, .int 0])), (q10, .inl (g.2 0, 8, .inl (fun _ => 0))), (q11, .inl (g.2 0, 4, .inl (fun _ => 0)))] H _ := hW
  refine lv_aload_n hx hb dX2_init_96 rfl (lv_at hl 0 rfl) ?_
  refine lv_iconst (v := 0) hx hb dX2_init_97 (by decide) ?_
  refine pf_X2_56 X hW 0 rfl (Nat.le_of_ble_eq_true rfl) dX2_init_98 (fun H locs hW => ?_)
  have hW : fz_W g A s [(h0, .inr (2, [.ref q1, .ref q2, .ref q3, .ref q4, .ref q5, .ref q6, .ref q7, .ref q8, .int 0, .ref q9, .ref q11, .int 0, .int 0, .int 0])), (q1, .inl (g.2 0, 48, .inl (fun _ => 0))), (q2, .inl (g.2 0, 48, .inl (fun _ => 0))), (q3, .inl (g.2 0, 48, .inl (fun _ => 0))), (q4, .inl (g.2 0, 48, .inl (fun _ => 0))), (q5, .inl (g.2 0, 48, .inl (fun _ => 0))), (q6, .inl (g.2 0, 48, .inl (fun _ => 0))), (q7, .inl (g.2 0, 48, .inl (fun _ => 0))), (q8, .inl (g.2 3, 5, .inr (.inr (.inr (.inr (fun _ => none)))))), (q9, .inr (1, [.ref q10, .int 0])), (q10, .inl (g.2 0, 8, .inl (fun _ => 0))), (q11, .inl (g.2 0, 4, .inl (fun _ => 0)))] H _ := hW
  refine lv_aload_n hx hb dX2_init_101 rfl (lv_at hl 0 rfl) ?_
  refine lv_iconst (v := 0) hx hb dX2_init_102 (by decide) ?_
  refine pf_X2_59 X hW 0 rfl (Nat.le_of_ble_eq_true rfl) dX2_init_103 (fun H locs hW => ?_)
  have hW : fz_W g A s [(h0, .inr (2, [.ref q1, .ref q2, .ref q3, .ref q4, .ref q5, .ref q6, .ref q7, .ref q8, .int 0, .ref q9, .ref q11, .int 0, .int 0, .int 0])), (q1, .inl (g.2 0, 48, .inl (fun _ => 0))), (q2, .inl (g.2 0, 48, .inl (fun _ => 0))), (q3, .inl (g.2 0, 48, .inl (fun _ => 0))), (q4, .inl (g.2 0, 48, .inl (fun _ => 0))), (q5, .inl (g.2 0, 48, .inl (fun _ => 0))), (q6, .inl (g.2 0, 48, .inl (fun _ => 0))), (q7, .inl (g.2 0, 48, .inl (fun _ => 0))), (q8, .inl (g.2 3, 5, .inr (.inr (.inr (.inr (fun _ => none)))))), (q9, .inr (1, [.ref q10, .int 0])), (q10, .inl (g.2 0, 8, .inl (fun _ => 0))), (q11, .inl (g.2 0, 4, .inl (fun _ => 0)))] H _ := hW
  refine lv_iconst (v := 0) hx hb dX2_init_106 (by decide) ?_
  refine lv_istore_n (lv' := [(1, .int 0), (0, .ref h0)]) hx hb dX2_init_107 rfl hl (by decide) rfl (fun ls hl => ?_)
  have loop : ∀ (k : Nat) (t : Nat), t ≤ 48 → 48 < t + k → ∀ (H : Heap) (locs : List Loc) (ls : Array Slot), fz_W g A s [(h0, .inr (2, [.ref q1, .ref q2, .ref q3, .ref q4, .ref q5, .ref q6, .ref q7, .ref q8, .int 0, .ref q9, .ref q11, .int 0, .int 0, .int 0])), (q1, .inl (g.2 0, 48, .inl (fun _ => 0))), (q2, .inl (g.2 0, 48, .inl (fun _ => 0))), (q3, .inl (g.2 0, 48, .inl (fz_to (fun _ => -1) (fun _ => 0) t))), (q4, .inl (g.2 0, 48, .inl (fun _ => 0))), (q5, .inl (g.2 0, 48, .inl (fun _ => 0))), (q6, .inl (g.2 0, 48, .inl (fun _ => 0))), (q7, .inl (g.2 0, 48, .inl (fun _ => 0))), (q8, .inl (g.2 3, 5, .inr (.inr (.inr (.inr (fun _ => none)))))), (q9, .inr (1, [.ref q10, .int 0])), (q10, .inl (g.2 0, 8, .inl (fun _ => 0))), (q11, .inl (g.2 0, 4, .inl (fun _ => 0)))] H locs → lv_has ls 2 [(0, .ref h0), (1, .int (nI t))] → W p l e (fz_R 2 16 385 44) s m args below meth c H locs (0 + 1 + 1 + 1 + 1 + 1 + 1 + 1 + 1 + 1 + 1 + 1) (0 + 48 + 48 + 48 + 48 + 48 + 48 + 48 + 5 + 2 + 8 + 4) (MQ below (fz_QN g (fun W => ∃ a : Nat → Nat, a 0 = h0 ∧ W = SW g a SV0) A) args s 16 385 A) (F0 m 108 ls []) := by
    intro k
    induction k with
    | zero =>
      intro t ht hk
      omega
    | succ k ih =>
      intro t ht hk H locs ls hW hl
      refine lv_iload_n hx hb dX2_init_108 rfl (lv_at hl 1 rfl) ?_
      refine lv_bipush (v := 48) hx hb dX2_init_109 (by decide) ?_
      refine lv_icmp_ge (tgt := 127) hx hb dX2_init_111 (by decide) (fun cc => ?_) (fun cc => ?_)
      · skip
        have h29 : 48 ≤ t := (nI_leI (a := 48) (b := t) (by omega) (by omega)).mp cc
        have e29 : t = 48 := by omega
        subst e29
        have hl := lv_sub hl [0] rfl
        have hl : lv_has ls 2 [(0, .ref h0)] := hl
        refine lv_iconst (v := 0) hx hb dX2_init_127 (by decide) ?_
        refine lv_istore_n (lv' := [(1, .int 0), (0, .ref h0)]) hx hb dX2_init_128 rfl hl (by decide) rfl (fun ls hl => ?_)
        refine lv_iload_n hx hb dX2_init_129 rfl (lv_at hl 0 rfl) ?_
        refine lv_aload_n hx hb dX2_init_130 rfl (lv_at hl 1 rfl) ?_
        refine gf_X2_35 X hW 0 rfl rfl dX2_init_131 ?_
        refine fz_al X hW 8 3 rfl rfl (v := 5) rfl dX2_init_134 ?_
        refine lv_icmp_ge (tgt := 157) hx hb dX2_init_135 (by decide) (fun cc => ?_) (fun cc => ?_)
        · exact absurd cc (by decide)
        · skip
          refine lv_aload_n hx hb dX2_init_138 rfl (lv_at hl 1 rfl) ?_
          refine gf_X2_35 X hW 0 rfl rfl dX2_init_139 ?_
          refine lv_iload_n hx hb dX2_init_142 rfl (lv_at hl 0 rfl) ?_
          refine fz_nw X hW (ci := 0) (fs := [.int 0, .int 0, .int 0, .int 0, .int 0, .int 0]) inX0 rfl tyX0 tyX0_ok cl_X2_33 ib_X0 ii_X0 (fun j hj => by rcases (show j = 0 ∨ j = 1 ∨ j = 2 ∨ j = 3 ∨ j = 4 ∨ j = 5 by omega) with rfl | rfl | rfl | rfl | rfl | rfl <;> rfl) (Nat.le_of_ble_eq_true rfl) (Nat.le_of_ble_eq_true rfl) dX2_init_143 (fun q12 H hW => ?_)
          have hW : fz_W g A s [(h0, .inr (2, [.ref q1, .ref q2, .ref q3, .ref q4, .ref q5, .ref q6, .ref q7, .ref q8, .int 0, .ref q9, .ref q11, .int 0, .int 0, .int 0])), (q1, .inl (g.2 0, 48, .inl (fun _ => 0))), (q2, .inl (g.2 0, 48, .inl (fun _ => 0))), (q3, .inl (g.2 0, 48, .inl (fz_to (fun _ => -1) (fun _ => 0) 48))), (q4, .inl (g.2 0, 48, .inl (fun _ => 0))), (q5, .inl (g.2 0, 48, .inl (fun _ => 0))), (q6, .inl (g.2 0, 48, .inl (fun _ => 0))), (q7, .inl (g.2 0, 48, .inl (fun _ => 0))), (q8, .inl (g.2 3, 5, .inr (.inr (.inr (.inr (fun _ => none)))))), (q9, .inr (1, [.ref q10, .int 0])), (q10, .inl (g.2 0, 8, .inl (fun _ => 0))), (q11, .inl (g.2 0, 4, .inl (fun _ => 0))), (q12, .inr (0, [.int 0, .int 0, .int 0, .int 0, .int 0, .int 0]))] H _ := hW
          refine lv_dup hx hb dX2_init_146 rfl ?_
          refine fz_cJ X hW (wc := [(q12, .inr (0, [.int 0, .int 0, .int 0, .int 0, .int 0, .int 0]))]) (wr := [(h0, .inr (2, [.ref q1, .ref q2, .ref q3, .ref q4, .ref q5, .ref q6, .ref q7, .ref q8, .int 0, .ref q9, .ref q11, .int 0, .int 0, .int 0])), (q1, .inl (g.2 0, 48, .inl (fun _ => 0))), (q2, .inl (g.2 0, 48, .inl (fun _ => 0))), (q3, .inl (g.2 0, 48, .inl (fz_to (fun _ => -1) (fun _ => 0) 48))), (q4, .inl (g.2 0, 48, .inl (fun _ => 0))), (q5, .inl (g.2 0, 48, .inl (fun _ => 0))), (q6, .inl (g.2 0, 48, .inl (fun _ => 0))), (q7, .inl (g.2 0, 48, .inl (fun _ => 0))), (q8, .inl (g.2 3, 5, .inr (.inr (.inr (.inr (fun _ => none)))))), (q9, .inr (1, [.ref q10, .int 0])), (q10, .inl (g.2 0, 8, .inl (fun _ => 0))), (q11, .inl (g.2 0, 4, .inl (fun _ => 0)))]) [12] [0, 1, 2, 3, 4, 5, 6, 7, 8, 9, 10, 11] (c_X0_init l g q12) lk_X2_62 rfl rfl rfl (by decide) (by decide) ⟨(Nat.le_of_ble_eq_true rfl), (Nat.le_of_ble_eq_true rfl)⟩ hl (Nat.le_of_ble_eq_true rfl) dX2_init_147 ⟨(Nat.le_of_ble_eq_true rfl), (Nat.le_of_ble_eq_true rfl)⟩ (fun W1 H locs hK hW => ?_)
          subst hK
          have hW : fz_W g A s [(h0, .inr (2, [.ref q1, .ref q2, .ref q3, .ref q4, .ref q5, .ref q6, .ref q7, .ref q8, .int 0, .ref q9, .ref q11, .int 0, .int 0, .int 0])), (q1, .inl (g.2 0, 48, .inl (fun _ => 0))), (q2, .inl (g.2 0, 48, .inl (fun _ => 0))), (q3, .inl (g.2 0, 48, .inl (fz_to (fun _ => -1) (fun _ => 0) 48))), (q4, .inl (g.2 0, 48, .inl (fun _ => 0))), (q5, .inl (g.2 0, 48, .inl (fun _ => 0))), (q6, .inl (g.2 0, 48, .inl (fun _ => 0))), (q7, .inl (g.2 0, 48, .inl (fun _ => 0))), (q8, .inl (g.2 3, 5, .inr (.inr (.inr (.inr (fun _ => none)))))), (q9, .inr (1, [.ref q10, .int 0])), (q10, .inl (g.2 0, 8, .inl (fun _ => 0))), (q11, .inl (g.2 0, 4, .inl (fun _ => 0))), (q12, .inr (0, [.int 0, .int 0, .int 0, .int 0, .int 0, .int 0]))] H _ := hW
          refine fz_sq X hW 8 0 12 0 rfl rfl rfl rfl rfl (by decide) (by decide) dX2_init_150 (fun H locs hW => ?_)
          have hW : fz_W g A s [(h0, .inr (2, [.ref q1, .ref q2, .ref q3, .ref q4, .ref q5, .ref q6, .ref q7, .ref q8, .int 0, .ref q9, .ref q11, .int 0, .int 0, .int 0])), (q1, .inl (g.2 0, 48, .inl (fun _ => 0))), (q2, .inl (g.2 0, 48, .inl (fun _ => 0))), (q3, .inl (g.2 0, 48, .inl (fz_to (fun _ => -1) (fun _ => 0) 48))), (q4, .inl (g.2 0, 48, .inl (fun _ => 0))), (q5, .inl (g.2 0, 48, .inl (fun _ => 0))), (q6, .inl (g.2 0, 48, .inl (fun _ => 0))), (q7, .inl (g.2 0, 48, .inl (fun _ => 0))), (q8, .inl (g.2 3, 5, .inr (.inr (.inr (.inr (va_up (fun _ => none) 0 (some q12))))))), (q9, .inr (1, [.ref q10, .int 0])), (q10, .inl (g.2 0, 8, .inl (fun _ => 0))), (q11, .inl (g.2 0, 4, .inl (fun _ => 0))), (q12, .inr (0, [.int 0, .int 0, .int 0, .int 0, .int 0, .int 0]))] H _ := hW
          refine lv_iinc (v := 1) (lv' := [(1, .int 1), (0, .ref h0)]) hx hb dX2_init_151 hl (k := 0) rfl rfl (by decide) rfl (fun ls hl => ?_)
          refine lv_goto (tgt := 129) hx hb dX2_init_154 (by decide) ?_
          refine lv_iload_n hx hb dX2_init_129 rfl (lv_at hl 0 rfl) ?_
          refine lv_aload_n hx hb dX2_init_130 rfl (lv_at hl 1 rfl) ?_
          refine gf_X2_35 X hW 0 rfl rfl dX2_init_131 ?_
          refine fz_al X hW 8 3 rfl rfl (v := 5) rfl dX2_init_134 ?_
          refine lv_icmp_ge (tgt := 157) hx hb dX2_init_135 (by decide) (fun cc => ?_) (fun cc => ?_)
          · exact absurd cc (by decide)
          · skip
            refine lv_aload_n hx hb dX2_init_138 rfl (lv_at hl 1 rfl) ?_
            refine gf_X2_35 X hW 0 rfl rfl dX2_init_139 ?_
            refine lv_iload_n hx hb dX2_init_142 rfl (lv_at hl 0 rfl) ?_
            refine fz_nw X hW (ci := 0) (fs := [.int 0, .int 0, .int 0, .int 0, .int 0, .int 0]) inX0 rfl tyX0 tyX0_ok cl_X2_33 ib_X0 ii_X0 (fun j hj => by rcases (show j = 0 ∨ j = 1 ∨ j = 2 ∨ j = 3 ∨ j = 4 ∨ j = 5 by omega) with rfl | rfl | rfl | rfl | rfl | rfl <;> rfl) (Nat.le_of_ble_eq_true rfl) (Nat.le_of_ble_eq_true rfl) dX2_init_143 (fun q13 H hW => ?_)
            have hW : fz_W g A s [(h0, .inr (2, [.ref q1, .ref q2, .ref q3, .ref q4, .ref q5, .ref q6, .ref q7, .ref q8, .int 0, .ref q9, .ref q11, .int 0, .int 0, .int 0])), (q1, .inl (g.2 0, 48, .inl (fun _ => 0))), (q2, .inl (g.2 0, 48, .inl (fun _ => 0))), (q3, .inl (g.2 0, 48, .inl (fz_to (fun _ => -1) (fun _ => 0) 48))), (q4, .inl (g.2 0, 48, .inl (fun _ => 0))), (q5, .inl (g.2 0, 48, .inl (fun _ => 0))), (q6, .inl (g.2 0, 48, .inl (fun _ => 0))), (q7, .inl (g.2 0, 48, .inl (fun _ => 0))), (q8, .inl (g.2 3, 5, .inr (.inr (.inr (.inr (va_up (fun _ => none) 0 (some q12))))))), (q9, .inr (1, [.ref q10, .int 0])), (q10, .inl (g.2 0, 8, .inl (fun _ => 0))), (q11, .inl (g.2 0, 4, .inl (fun _ => 0))), (q12, .inr (0, [.int 0, .int 0, .int 0, .int 0, .int 0, .int 0])), (q13, .inr (0, [.int 0, .int 0, .int 0, .int 0, .int 0, .int 0]))] H _ := hW
            refine lv_dup hx hb dX2_init_146 rfl ?_
            refine fz_cJ X hW (wc := [(q13, .inr (0, [.int 0, .int 0, .int 0, .int 0, .int 0, .int 0]))]) (wr := [(h0, .inr (2, [.ref q1, .ref q2, .ref q3, .ref q4, .ref q5, .ref q6, .ref q7, .ref q8, .int 0, .ref q9, .ref q11, .int 0, .int 0, .int 0])), (q1, .inl (g.2 0, 48, .inl (fun _ => 0))), (q2, .inl (g.2 0, 48, .inl (fun _ => 0))), (q3, .inl (g.2 0, 48, .inl (fz_to (fun _ => -1) (fun _ => 0) 48))), (q4, .inl (g.2 0, 48, .inl (fun _ => 0))), (q5, .inl (g.2 0, 48, .inl (fun _ => 0))), (q6, .inl (g.2 0, 48, .inl (fun _ => 0))), (q7, .inl (g.2 0, 48, .inl (fun _ => 0))), (q8, .inl (g.2 3, 5, .inr (.inr (.inr (.inr (va_up (fun _ => none) 0 (some q12))))))), (q9, .inr (1, [.ref q10, .int 0])), (q10, .inl (g.2 0, 8, .inl (fun _ => 0))), (q11, .inl (g.2 0, 4, .inl (fun _ => 0))), (q12, .inr (0, [.int 0, .int 0, .int 0, .int 0, .int 0, .int 0]))]) [13] [0, 1, 2, 3, 4, 5, 6, 7, 8, 9, 10, 11, 12] (c_X0_init l g q13) lk_X2_62 rfl rfl rfl (by decide) (by decide) ⟨(Nat.le_of_ble_eq_true rfl), (Nat.le_of_ble_eq_true rfl)⟩ hl (Nat.le_of_ble_eq_true rfl) dX2_init_147 ⟨(Nat.le_of_ble_eq_true rfl), (Nat.le_of_ble_eq_true rfl)⟩ (fun W1 H locs hK hW => ?_)
            subst hK
            have hW : fz_W g A s [(h0, .inr (2, [.ref q1, .ref q2, .ref q3, .ref q4, .ref q5, .ref q6, .ref q7, .ref q8, .int 0, .ref q9, .ref q11, .int 0, .int 0, .int 0])), (q1, .inl (g.2 0, 48, .inl (fun _ => 0))), (q2, .inl (g.2 0, 48, .inl (fun _ => 0))), (q3, .inl (g.2 0, 48, .inl (fz_to (fun _ => -1) (fun _ => 0) 48))), (q4, .inl (g.2 0, 48, .inl (fun _ => 0))), (q5, .inl (g.2 0, 48, .inl (fun _ => 0))), (q6, .inl (g.2 0, 48, .inl (fun _ => 0))), (q7, .inl (g.2 0, 48, .inl (fun _ => 0))), (q8, .inl (g.2 3, 5, .inr (.inr (.inr (.inr (va_up (fun _ => none) 0 (some q12))))))), (q9, .inr (1, [.ref q10, .int 0])), (q10, .inl (g.2 0, 8, .inl (fun _ => 0))), (q11, .inl (g.2 0, 4, .inl (fun _ => 0))), (q12, .inr (0, [.int 0, .int 0, .int 0, .int 0, .int 0, .int 0])), (q13, .inr (0, [.int 0, .int 0, .int 0, .int 0, .int 0, .int 0]))] H _ := hW
            refine fz_sq X hW 8 1 13 0 rfl rfl rfl rfl rfl (by decide) (by decide) dX2_init_150 (fun H locs hW => ?_)
            have hW : fz_W g A s [(h0, .inr (2, [.ref q1, .ref q2, .ref q3, .ref q4, .ref q5, .ref q6, .ref q7, .ref q8, .int 0, .ref q9, .ref q11, .int 0, .int 0, .int 0])), (q1, .inl (g.2 0, 48, .inl (fun _ => 0))), (q2, .inl (g.2 0, 48, .inl (fun _ => 0))), (q3, .inl (g.2 0, 48, .inl (fz_to (fun _ => -1) (fun _ => 0) 48))), (q4, .inl (g.2 0, 48, .inl (fun _ => 0))), (q5, .inl (g.2 0, 48, .inl (fun _ => 0))), (q6, .inl (g.2 0, 48, .inl (fun _ => 0))), (q7, .inl (g.2 0, 48, .inl (fun _ => 0))), (q8, .inl (g.2 3, 5, .inr (.inr (.inr (.inr (va_up (va_up (fun _ => none) 0 (some q12)) 1 (some q13))))))), (q9, .inr (1, [.ref q10, .int 0])), (q10, .inl (g.2 0, 8, .inl (fun _ => 0))), (q11, .inl (g.2 0, 4, .inl (fun _ => 0))), (q12, .inr (0, [.int 0, .int 0, .int 0, .int 0, .int 0, .int 0])), (q13, .inr (0, [.int 0, .int 0, .int 0, .int 0, .int 0, .int 0]))] H _ := hW
            refine lv_iinc (v := 2) (lv' := [(1, .int 2), (0, .ref h0)]) hx hb dX2_init_151 hl (k := 0) rfl rfl (by decide) rfl (fun ls hl => ?_)
            refine lv_goto (tgt := 129) hx hb dX2_init_154 (by decide) ?_
            refine lv_iload_n hx hb dX2_init_129 rfl (lv_at hl 0 rfl) ?_
            refine lv_aload_n hx hb dX2_init_130 rfl (lv_at hl 1 rfl) ?_
            refine gf_X2_35 X hW 0 rfl rfl dX2_init_131 ?_
            refine fz_al X hW 8 3 rfl rfl (v := 5) rfl dX2_init_134 ?_
            refine lv_icmp_ge (tgt := 157) hx hb dX2_init_135 (by decide) (fun cc => ?_) (fun cc => ?_)
            · exact absurd cc (by decide)
            · skip
              refine lv_aload_n hx hb dX2_init_138 rfl (lv_at hl 1 rfl) ?_
              refine gf_X2_35 X hW 0 rfl rfl dX2_init_139 ?_
              refine lv_iload_n hx hb dX2_init_142 rfl (lv_at hl 0 rfl) ?_
              refine fz_nw X hW (ci := 0) (fs := [.int 0, .int 0, .int 0, .int 0, .int 0, .int 0]) inX0 rfl tyX0 tyX0_ok cl_X2_33 ib_X0 ii_X0 (fun j hj => by rcases (show j = 0 ∨ j = 1 ∨ j = 2 ∨ j = 3 ∨ j = 4 ∨ j = 5 by omega) with rfl | rfl | rfl | rfl | rfl | rfl <;> rfl) (Nat.le_of_ble_eq_true rfl) (Nat.le_of_ble_eq_true rfl) dX2_init_143 (fun q14 H hW => ?_)
              have hW : fz_W g A s [(h0, .inr (2, [.ref q1, .ref q2, .ref q3, .ref q4, .ref q5, .ref q6, .ref q7, .ref q8, .int 0, .ref q9, .ref q11, .int 0, .int 0, .int 0])), (q1, .inl (g.2 0, 48, .inl (fun _ => 0))), (q2, .inl (g.2 0, 48, .inl (fun _ => 0))), (q3, .inl (g.2 0, 48, .inl (fz_to (fun _ => -1) (fun _ => 0) 48))), (q4, .inl (g.2 0, 48, .inl (fun _ => 0))), (q5, .inl (g.2 0, 48, .inl (fun _ => 0))), (q6, .inl (g.2 0, 48, .inl (fun _ => 0))), (q7, .inl (g.2 0, 48, .inl (fun _ => 0))), (q8, .inl (g.2 3, 5, .inr (.inr (.inr (.inr (va_up (va_up (fun _ => none) 0 (some q12)) 1 (some q13))))))), (q9, .inr (1, [.ref q10, .int 0])), (q10, .inl (g.2 0, 8, .inl (fun _ => 0))), (q11, .inl (g.2 0, 4, .inl (fun _ => 0))), (q12, .inr (0, [.int 0, .int 0, .int 0, .int 0, .int 0, .int 0])), (q13, .inr (0, [.int 0, .int 0, .int 0, .int 0, .int 0, .int 0])), (q14, .inr (0, [.int 0, .int 0, .int 0, .int 0, .int 0, .int 0]))] H _ := hW
              refine lv_dup hx hb dX2_init_146 rfl ?_
              refine fz_cJ X hW (wc := [(q14, .inr (0, [.int 0, .int 0, .int 0, .int 0, .int 0, .int 0]))]) (wr := [(h0, .inr (2, [.ref q1, .ref q2, .ref q3, .ref q4, .ref q5, .ref q6, .ref q7, .ref q8, .int 0, .ref q9, .ref q11, .int 0, .int 0, .int 0])), (q1, .inl (g.2 0, 48, .inl (fun _ => 0))), (q2, .inl (g.2 0, 48, .inl (fun _ => 0))), (q3, .inl (g.2 0, 48, .inl (fz_to (fun _ => -1) (fun _ => 0) 48))), (q4, .inl (g.2 0, 48, .inl (fun _ => 0))), (q5, .inl (g.2 0, 48, .inl (fun _ => 0))), (q6, .inl (g.2 0, 48, .inl (fun _ => 0))), (q7, .inl (g.2 0, 48, .inl (fun _ => 0))), (q8, .inl (g.2 3, 5, .inr (.inr (.inr (.inr (va_up (va_up (fun _ => none) 0 (some q12)) 1 (some q13))))))), (q9, .inr (1, [.ref q10, .int 0])), (q10, .inl (g.2 0, 8, .inl (fun _ => 0))), (q11, .inl (g.2 0, 4, .inl (fun _ => 0))), (q12, .inr (0, [.int 0, .int 0, .int 0, .int 0, .int 0, .int 0])), (q13, .inr (0, [.int 0, .int 0, .int 0, .int 0, .int 0, .int 0]))]) [14] [0, 1, 2, 3, 4, 5, 6, 7, 8, 9, 10, 11, 12, 13] (c_X0_init l g q14) lk_X2_62 rfl rfl rfl (by decide) (by decide) ⟨(Nat.le_of_ble_eq_true rfl), (Nat.le_of_ble_eq_true rfl)⟩ hl (Nat.le_of_ble_eq_true rfl) dX2_init_147 ⟨(Nat.le_of_ble_eq_true rfl), (Nat.le_of_ble_eq_true rfl)⟩ (fun W1 H locs hK hW => ?_)
              subst hK
              have hW : fz_W g A s [(h0, .inr (2, [.ref q1, .ref q2, .ref q3, .ref q4, .ref q5, .ref q6, .ref q7, .ref q8, .int 0, .ref q9, .ref q11, .int 0, .int 0, .int 0])), (q1, .inl (g.2 0, 48, .inl (fun _ => 0))), (q2, .inl (g.2 0, 48, .inl (fun _ => 0))), (q3, .inl (g.2 0, 48, .inl (fz_to (fun _ => -1) (fun _ => 0) 48))), (q4, .inl (g.2 0, 48, .inl (fun _ => 0))), (q5, .inl (g.2 0, 48, .inl (fun _ => 0))), (q6, .inl (g.2 0, 48, .inl (fun _ => 0))), (q7, .inl (g.2 0, 48, .inl (fun _ => 0))), (q8, .inl (g.2 3, 5, .inr (.inr (.inr (.inr (va_up (va_up (fun _ => none) 0 (some q12)) 1 (some q13))))))), (q9, .inr (1, [.ref q10, .int 0])), (q10, .inl (g.2 0, 8, .inl (fun _ => 0))), (q11, .inl (g.2 0, 4, .inl (fun _ => 0))), (q12, .inr (0, [.int 0, .int 0, .int 0, .int 0, .int 0, .int 0])), (q13, .inr (0, [.int 0, .int 0, .int 0, .int 0, .int 0, .int 0])), (q14, .inr (0, [.int 0, .int 0, .int 0, .int 0, .int 0, .int 0]))] H _ := hW
              refine fz_sq X hW 8 2 14 0 rfl rfl rfl rfl rfl (by decide) (by decide) dX2_init_150 (fun H locs hW => ?_)
              have hW : fz_W g A s [(h0, .inr (2, [.ref q1, .ref q2, .ref q3, .ref q4, .ref q5, .ref q6, .ref q7, .ref q8, .int 0, .ref q9, .ref q11, .int 0, .int 0, .int 0])), (q1, .inl (g.2 0, 48, .inl (fun _ => 0))), (q2, .inl (g.2 0, 48, .inl (fun _ => 0))), (q3, .inl (g.2 0, 48, .inl (fz_to (fun _ => -1) (fun _ => 0) 48))), (q4, .inl (g.2 0, 48, .inl (fun _ => 0))), (q5, .inl (g.2 0, 48, .inl (fun _ => 0))), (q6, .inl (g.2 0, 48, .inl (fun _ => 0))), (q7, .inl (g.2 0, 48, .inl (fun _ => 0))), (q8, .inl (g.2 3, 5, .inr (.inr (.inr (.inr (va_up (va_up (va_up (fun _ => none) 0 (some q12)) 1 (some q13)) 2 (some q14))))))), (q9, .inr (1, [.ref q10, .int 0])), (q10, .inl (g.2 0, 8, .inl (fun _ => 0))), (q11, .inl (g.2 0, 4, .inl (fun _ => 0))), (q12, .inr (0, [.int 0, .int 0, .int 0, .int 0, .int 0, .int 0])), (q13, .inr (0, [.int 0, .int 0, .int 0, .int 0, .int 0, .int 0])), (q14, .inr (0, [.int 0, .int 0, .int 0, .int 0, .int 0, .int 0]))] H _ := hW
              refine lv_iinc (v := 3) (lv' := [(1, .int 3), (0, .ref h0)]) hx hb dX2_init_151 hl (k := 0) rfl rfl (by decide) rfl (fun ls hl => ?_)
              refine lv_goto (tgt := 129) hx hb dX2_init_154 (by decide) ?_
              refine lv_iload_n hx hb dX2_init_129 rfl (lv_at hl 0 rfl) ?_
              refine lv_aload_n hx hb dX2_init_130 rfl (lv_at hl 1 rfl) ?_
              refine gf_X2_35 X hW 0 rfl rfl dX2_init_131 ?_
              refine fz_al X hW 8 3 rfl rfl (v := 5) rfl dX2_init_134 ?_
              refine lv_icmp_ge (tgt := 157) hx hb dX2_init_135 (by decide) (fun cc => ?_) (fun cc => ?_)
              · exact absurd cc (by decide)
              · skip
                refine lv_aload_n hx hb dX2_init_138 rfl (lv_at hl 1 rfl) ?_
                refine gf_X2_35 X hW 0 rfl rfl dX2_init_139 ?_
                refine lv_iload_n hx hb dX2_init_142 rfl (lv_at hl 0 rfl) ?_
                refine fz_nw X hW (ci := 0) (fs := [.int 0, .int 0, .int 0, .int 0, .int 0, .int 0]) inX0 rfl tyX0 tyX0_ok cl_X2_33 ib_X0 ii_X0 (fun j hj => by rcases (show j = 0 ∨ j = 1 ∨ j = 2 ∨ j = 3 ∨ j = 4 ∨ j = 5 by omega) with rfl | rfl | rfl | rfl | rfl | rfl <;> rfl) (Nat.le_of_ble_eq_true rfl) (Nat.le_of_ble_eq_true rfl) dX2_init_143 (fun q15 H hW => ?_)
                have hW : fz_W g A s [(h0, .inr (2, [.ref q1, .ref q2, .ref q3, .ref q4, .ref q5, .ref q6, .ref q7, .ref q8, .int 0, .ref q9, .ref q11, .int 0, .int 0, .int 0])), (q1, .inl (g.2 0, 48, .inl (fun _ => 0))), (q2, .inl (g.2 0, 48, .inl (fun _ => 0))), (q3, .inl (g.2 0, 48, .inl (fz_to (fun _ => -1) (fun _ => 0) 48))), (q4, .inl (g.2 0, 48, .inl (fun _ => 0))), (q5, .inl (g.2 0, 48, .inl (fun _ => 0))), (q6, .inl (g.2 0, 48, .inl (fun _ => 0))), (q7, .inl (g.2 0, 48, .inl (fun _ => 0))), (q8, .inl (g.2 3, 5, .inr (.inr (.inr (.inr (va_up (va_up (va_up (fun _ => none) 0 (some q12)) 1 (some q13)) 2 (some q14))))))), (q9, .inr (1, [.ref q10, .int 0])), (q10, .inl (g.2 0, 8, .inl (fun _ => 0))), (q11, .inl (g.2 0, 4, .inl (fun _ => 0))), (q12, .inr (0, [.int 0, .int 0, .int 0, .int 0, .int 0, .int 0])), (q13, .inr (0, [.int 0, .int 0, .int 0, .int 0, .int 0, .int 0])), (q14, .inr (0, [.int 0, .int 0, .int 0, .int 0, .int 0, .int 0])), (q15, .inr (0, [.int 0, .int 0, .int 0, .int 0, .int 0, .int 0]))] H _ := hW
                refine lv_dup hx hb dX2_init_146 rfl ?_
                refine fz_cJ X hW (wc := [(q15, .inr (0, [.int 0, .int 0, .int 0, .int 0, .int 0, .int 0]))]) (wr := [(h0, .inr (2, [.ref q1, .ref q2, .ref q3, .ref q4, .ref q5, .ref q6, .ref q7, .ref q8, .int 0, .ref q9, .ref q11, .int 0, .int 0, .int 0])), (q1, .inl (g.2 0, 48, .inl (fun _ => 0))), (q2, .inl (g.2 0, 48, .inl (fun _ => 0))), (q3, .inl (g.2 0, 48, .inl (fz_to (fun _ => -1) (fun _ => 0) 48))), (q4, .inl (g.2 0, 48, .inl (fun _ => 0))), (q5, .inl (g.2 0, 48, .inl (fun _ => 0))), (q6, .inl (g.2 0, 48, .inl (fun _ => 0))), (q7, .inl (g.2 0, 48, .inl (fun _ => 0))), (q8, .inl (g.2 3, 5, .inr (.inr (.inr (.inr (va_up (va_up (va_up (fun _ => none) 0 (some q12)) 1 (some q13)) 2 (some q14))))))), (q9, .inr (1, [.ref q10, .int 0])), (q10, .inl (g.2 0, 8, .inl (fun _ => 0))), (q11, .inl (g.2 0, 4, .inl (fun _ => 0))), (q12, .inr (0, [.int 0, .int 0, .int 0, .int 0, .int 0, .int 0])), (q13, .inr (0, [.int 0, .int 0, .int 0, .int 0, .int 0, .int 0])), (q14, .inr (0, [.int 0, .int 0, .int 0, .int 0, .int 0, .int 0]))]) [15] [0, 1, 2, 3, 4, 5, 6, 7, 8, 9, 10, 11, 12, 13, 14] (c_X0_init l g q15) lk_X2_62 rfl rfl rfl (by decide) (by decide) ⟨(Nat.le_of_ble_eq_true rfl), (Nat.le_of_ble_eq_true rfl)⟩ hl (Nat.le_of_ble_eq_true rfl) dX2_init_147 ⟨(Nat.le_of_ble_eq_true rfl), (Nat.le_of_ble_eq_true rfl)⟩ (fun W1 H locs hK hW => ?_)
                subst hK
                have hW : fz_W g A s [(h0, .inr (2, [.ref q1, .ref q2, .ref q3, .ref q4, .ref q5, .ref q6, .ref q7, .ref q8, .int 0, .ref q9, .ref q11, .int 0, .int 0, .int 0])), (q1, .inl (g.2 0, 48, .inl (fun _ => 0))), (q2, .inl (g.2 0, 48, .inl (fun _ => 0))), (q3, .inl (g.2 0, 48, .inl (fz_to (fun _ => -1) (fun _ => 0) 48))), (q4, .inl (g.2 0, 48, .inl (fun _ => 0))), (q5, .inl (g.2 0, 48, .inl (fun _ => 0))), (q6, .inl (g.2 0, 48, .inl (fun _ => 0))), (q7, .inl (g.2 0, 48, .inl (fun _ => 0))), (q8, .inl (g.2 3, 5, .inr (.inr (.inr (.inr (va_up (va_up (va_up (fun _ => none) 0 (some q12)) 1 (some q13)) 2 (some q14))))))), (q9, .inr (1, [.ref q10, .int 0])), (q10, .inl (g.2 0, 8, .inl (fun _ => 0))), (q11, .inl (g.2 0, 4, .inl (fun _ => 0))), (q12, .inr (0, [.int 0, .int 0, .int 0, .int 0, .int 0, .int 0])), (q13, .inr (0, [.int 0, .int 0, .int 0, .int 0, .int 0, .int 0])), (q14, .inr (0, [.int 0, .int 0, .int 0, .int 0, .int 0, .int 0])), (q15, .inr (0, [.int 0, .int 0, .int 0, .int 0, .int 0, .int 0]))] H _ := hW
                refine fz_sq X hW 8 3 15 0 rfl rfl rfl rfl rfl (by decide) (by decide) dX2_init_150 (fun H locs hW => ?_)
                have hW : fz_W g A s [(h0, .inr (2, [.ref q1, .ref q2, .ref q3, .ref q4, .ref q5, .ref q6, .ref q7, .ref q8, .int 0, .ref q9, .ref q11, .int 0, .int 0, .int 0])), (q1, .inl (g.2 0, 48, .inl (fun _ => 0))), (q2, .inl (g.2 0, 48, .inl (fun _ => 0))), (q3, .inl (g.2 0, 48, .inl (fz_to (fun _ => -1) (fun _ => 0) 48))), (q4, .inl (g.2 0, 48, .inl (fun _ => 0))), (q5, .inl (g.2 0, 48, .inl (fun _ => 0))), (q6, .inl (g.2 0, 48, .inl (fun _ => 0))), (q7, .inl (g.2 0, 48, .inl (fun _ => 0))), (q8, .inl (g.2 3, 5, .inr (.inr (.inr (.inr (va_up (va_up (va_up (va_up (fun _ => none) 0 (some q12)) 1 (some q13)) 2 (some q14)) 3 (some q15))))))), (q9, .inr (1, [.ref q10, .int 0])), (q10, .inl (g.2 0, 8, .inl (fun _ => 0))), (q11, .inl (g.2 0, 4, .inl (fun _ => 0))), (q12, .inr (0, [.int 0, .int 0, .int 0, .int 0, .int 0, .int 0])), (q13, .inr (0, [.int 0, .int 0, .int 0, .int 0, .int 0, .int 0])), (q14, .inr (0, [.int 0, .int 0, .int 0, .int 0, .int 0, .int 0])), (q15, .inr (0, [.int 0, .int 0, .int 0, .int 0, .int 0, .int 0]))] H _ := hW
                refine lv_iinc (v := 4) (lv' := [(1, .int 4), (0, .ref h0)]) hx hb dX2_init_151 hl (k := 0) rfl rfl (by decide) rfl (fun ls hl => ?_)
                refine lv_goto (tgt := 129) hx hb dX2_init_154 (by decide) ?_
                refine lv_iload_n hx hb dX2_init_129 rfl (lv_at hl 0 rfl) ?_
                refine lv_aload_n hx hb dX2_init_130 rfl (lv_at hl 1 rfl) ?_
                refine gf_X2_35 X hW 0 rfl rfl dX2_init_131 ?_
                refine fz_al X hW 8 3 rfl rfl (v := 5) rfl dX2_init_134 ?_
                refine lv_icmp_ge (tgt := 157) hx hb dX2_init_135 (by decide) (fun cc => ?_) (fun cc => ?_)
                · exact absurd cc (by decide)
                · skip
                  refine lv_aload_n hx hb dX2_init_138 rfl (lv_at hl 1 rfl) ?_
                  refine gf_X2_35 X hW 0 rfl rfl dX2_init_139 ?_
                  refine lv_iload_n hx hb dX2_init_142 rfl (lv_at hl 0 rfl) ?_
                  refine fz_nw X hW (ci := 0) (fs := [.int 0, .int 0, .int 0, .int 0, .int 0, .int 0]) inX0 rfl tyX0 tyX0_ok cl_X2_33 ib_X0 ii_X0 (fun j hj => by rcases (show j = 0 ∨ j = 1 ∨ j = 2 ∨ j = 3 ∨ j = 4 ∨ j = 5 by omega) with rfl | rfl | rfl | rfl | rfl | rfl <;> rfl) (Nat.le_of_ble_eq_true rfl) (Nat.le_of_ble_eq_true rfl) dX2_init_143 (fun q16 H hW => ?_)
                  have hW : fz_W g A s [(h0, .inr (2, [.ref q1, .ref q2, .ref q3, .ref q4, .ref q5, .ref q6, .ref q7, .ref q8, .int 0, .ref q9, .ref q11, .int 0, .int 0, .int 0])), (q1, .inl (g.2 0, 48, .inl (fun _ => 0))), (q2, .inl (g.2 0, 48, .inl (fun _ => 0))), (q3, .inl (g.2 0, 48, .inl (fz_to (fun _ => -1) (fun _ => 0) 48))), (q4, .inl (g.2 0, 48, .inl (fun _ => 0))), (q5, .inl (g.2 0, 48, .inl (fun _ => 0))), (q6, .inl (g.2 0, 48, .inl (fun _ => 0))), (q7, .inl (g.2 0, 48, .inl (fun _ => 0))), (q8, .inl (g.2 3, 5, .inr (.inr (.inr (.inr (va_up (va_up (va_up (va_up (fun _ => none) 0 (some q12)) 1 (some q13)) 2 (some q14)) 3 (some q15))))))), (q9, .inr (1, [.ref q10, .int 0])), (q10, .inl (g.2 0, 8, .inl (fun _ => 0))), (q11, .inl (g.2 0, 4, .inl (fun _ => 0))), (q12, .inr (0, [.int 0, .int 0, .int 0, .int 0, .int 0, .int 0])), (q13, .inr (0, [.int 0, .int 0, .int 0, .int 0, .int 0, .int 0])), (q14, .inr (0, [.int 0, .int 0, .int 0, .int 0, .int 0, .int 0])), (q15, .inr (0, [.int 0, .int 0, .int 0, .int 0, .int 0, .int 0])), (q16, .inr (0, [.int 0, .int 0, .int 0, .int 0, .int 0, .int 0]))] H _ := hW
                  refine lv_dup hx hb dX2_init_146 rfl ?_
                  refine fz_cJ X hW (wc := [(q16, .inr (0, [.int 0, .int 0, .int 0, .int 0, .int 0, .int 0]))]) (wr := [(h0, .inr (2, [.ref q1, .ref q2, .ref q3, .ref q4, .ref q5, .ref q6, .ref q7, .ref q8, .int 0, .ref q9, .ref q11, .int 0, .int 0, .int 0])), (q1, .inl (g.2 0, 48, .inl (fun _ => 0))), (q2, .inl (g.2 0, 48, .inl (fun _ => 0))), (q3, .inl (g.2 0, 48, .inl (fz_to (fun _ => -1) (fun _ => 0) 48))), (q4, .inl (g.2 0, 48, .inl (fun _ => 0))), (q5, .inl (g.2 0, 48, .inl (fun _ => 0))), (q6, .inl (g.2 0, 48, .inl (fun _ => 0))), (q7, .inl (g.2 0, 48, .inl (fun _ => 0))), (q8, .inl (g.2 3, 5, .inr (.inr (.inr (.inr (va_up (va_up (va_up (va_up (fun _ => none) 0 (some q12)) 1 (some q13)) 2 (some q14)) 3 (some q15))))))), (q9, .inr (1, [.ref q10, .int 0])), (q10, .inl (g.2 0, 8, .inl (fun _ => 0))), (q11, .inl (g.2 0, 4, .inl (fun _ => 0))), (q12, .inr (0, [.int 0, .int 0, .int 0, .int 0, .int 0, .int 0])), (q13, .inr (0, [.int 0, .int 0, .int 0, .int 0, .int 0, .int 0])), (q14, .inr (0, [.int 0, .int 0, .int 0, .int 0, .int 0, .int 0])), (q15, .inr (0, [.int 0, .int 0, .int 0, .int 0, .int 0, .int 0]))]) [16] [0, 1, 2, 3, 4, 5, 6, 7, 8, 9, 10, 11, 12, 13, 14, 15] (c_X0_init l g q16) lk_X2_62 rfl rfl rfl (by decide) (by decide) ⟨(Nat.le_of_ble_eq_true rfl), (Nat.le_of_ble_eq_true rfl)⟩ hl (Nat.le_of_ble_eq_true rfl) dX2_init_147 ⟨(Nat.le_of_ble_eq_true rfl), (Nat.le_of_ble_eq_true rfl)⟩ (fun W1 H locs hK hW => ?_)
                  subst hK
                  have hW : fz_W g A s [(h0, .inr (2, [.ref q1, .ref q2, .ref q3, .ref q4, .ref q5, .ref q6, .ref q7, .ref q8, .int 0, .ref q9, .ref q11, .int 0, .int 0, .int 0])), (q1, .inl (g.2 0, 48, .inl (fun _ => 0))), (q2, .inl (g.2 0, 48, .inl (fun _ => 0))), (q3, .inl (g.2 0, 48, .inl (fz_to (fun _ => -1) (fun _ => 0) 48))), (q4, .inl (g.2 0, 48, .inl (fun _ => 0))), (q5, .inl (g.2 0, 48, .inl (fun _ => 0))), (q6, .inl (g.2 0, 48, .inl (fun _ => 0))), (q7, .inl (g.2 0, 48, .inl (fun _ => 0))), (q8, .inl (g.2 3, 5, .inr (.inr (.inr (.inr (va_up (va_up (va_up (va_up (fun _ => none) 0 (some q12)) 1 (some q13)) 2 (some q14)) 3 (some q15))))))), (q9, .inr (1, [.ref q10, .int 0])), (q10, .inl (g.2 0, 8, .inl (fun _ => 0))), (q11, .inl (g.2 0, 4, .inl (fun _ => 0))), (q12, .inr (0, [.int 0, .int 0, .int 0, .int 0, .int 0, .int 0])), (q13, .inr (0, [.int 0, .int 0, .int 0, .int 0, .int 0, .int 0])), (q14, .inr (0, [.int 0, .int 0, .int 0, .int 0, .int 0, .int 0])), (q15, .inr (0, [.int 0, .int 0, .int 0, .int 0, .int 0, .int 0])), (q16, .inr (0, [.int 0, .int 0, .int 0, .int 0, .int 0, .int 0]))] H _ := hW
                  refine fz_sq X hW 8 4 16 0 rfl rfl rfl rfl rfl (by decide) (by decide) dX2_init_150 (fun H locs hW => ?_)
                  have hW : fz_W g A s [(h0, .inr (2, [.ref q1, .ref q2, .ref q3, .ref q4, .ref q5, .ref q6, .ref q7, .ref q8, .int 0, .ref q9, .ref q11, .int 0, .int 0, .int 0])), (q1, .inl (g.2 0, 48, .inl (fun _ => 0))), (q2, .inl (g.2 0, 48, .inl (fun _ => 0))), (q3, .inl (g.2 0, 48, .inl (fz_to (fun _ => -1) (fun _ => 0) 48))), (q4, .inl (g.2 0, 48, .inl (fun _ => 0))), (q5, .inl (g.2 0, 48, .inl (fun _ => 0))), (q6, .inl (g.2 0, 48, .inl (fun _ => 0))), (q7, .inl (g.2 0, 48, .inl (fun _ => 0))), (q8, .inl (g.2 3, 5, .inr (.inr (.inr (.inr (va_up (va_up (va_up (va_up (va_up (fun _ => none) 0 (some q12)) 1 (some q13)) 2 (some q14)) 3 (some q15)) 4 (some q16))))))), (q9, .inr (1, [.ref q10, .int 0])), (q10, .inl (g.2 0, 8, .inl (fun _ => 0))), (q11, .inl (g.2 0, 4, .inl (fun _ => 0))), (q12, .inr (0, [.int 0, .int 0, .int 0, .int 0, .int 0, .int 0])), (q13, .inr (0, [.int 0, .int 0, .int 0, .int 0, .int 0, .int 0])), (q14, .inr (0, [.int 0, .int 0, .int 0, .int 0, .int 0, .int 0])), (q15, .inr (0, [.int 0, .int 0, .int 0, .int 0, .int 0, .int 0])), (q16, .inr (0, [.int 0, .int 0, .int 0, .int 0, .int 0, .int 0]))] H _ := hW
                  refine lv_iinc (v := 5) (lv' := [(1, .int 5), (0, .ref h0)]) hx hb dX2_init_151 hl (k := 0) rfl rfl (by decide) rfl (fun ls hl => ?_)
                  refine lv_goto (tgt := 129) hx hb dX2_init_154 (by decide) ?_
                  refine lv_iload_n hx hb dX2_init_129 rfl (lv_at hl 0 rfl) ?_
                  refine lv_aload_n hx hb dX2_init_130 rfl (lv_at hl 1 rfl) ?_
                  refine gf_X2_35 X hW 0 rfl rfl dX2_init_131 ?_
                  refine fz_al X hW 8 3 rfl rfl (v := 5) rfl dX2_init_134 ?_
                  refine lv_icmp_ge (tgt := 157) hx hb dX2_init_135 (by decide) (fun cc => ?_) (fun cc => ?_)
                  · skip
                    have hW := fz_cast (congrArg (fun z => ([(h0, .inr (2, [.ref q1, .ref q2, .ref q3, .ref q4, .ref q5, .ref q6, .ref q7, .ref q8, .int 0, .ref q9, .ref q11, .int 0, .int 0, .int 0])), (q1, .inl (g.2 0, 48, .inl (fun _ => 0))), (q2, .inl (g.2 0, 48, .inl (fun _ => 0))), (q3, .inl (g.2 0, 48, .inl (fz_to (fun _ => -1) (fun _ => 0) 48))), (q4, .inl (g.2 0, 48, .inl (fun _ => 0))), (q5, .inl (g.2 0, 48, .inl (fun _ => 0))), (q6, .inl (g.2 0, 48, .inl (fun _ => 0))), (q7, .inl (g.2 0, 48, .inl (fun _ => 0))), (q8, .inl (g.2 3, 5, .inr (.inr (.inr (.inr z))))), (q9, .inr (1, [.ref q10, .int 0])), (q10, .inl (g.2 0, 8, .inl (fun _ => 0))), (q11, .inl (g.2 0, 4, .inl (fun _ => 0))), (q12, .inr (0, [.int 0, .int 0, .int 0, .int 0, .int 0, .int 0])), (q13, .inr (0, [.int 0, .int 0, .int 0, .int 0, .int 0, .int 0])), (q14, .inr (0, [.int 0, .int 0, .int 0, .int 0, .int 0, .int 0])), (q15, .inr (0, [.int 0, .int 0, .int 0, .int 0, .int 0, .int 0])), (q16, .inr (0, [.int 0, .int 0, .int 0, .int 0, .int 0, .int 0]))] : va_W)) (va_up5 (fun j => [h0, q1, q2, q3, q4, q5, q6, q7, q8, q9, q10, q11, q12, q13, q14, q15, q16].getD j 0))) hW
                    exact fz_rvN X hW ⟨(fun j => [h0, q1, q2, q3, q4, q5, q6, q7, q8, q9, q10, q11, q12, q13, q14, q15, q16].getD j 0), rfl, rfl⟩ ⟨(Nat.le_of_ble_eq_true rfl), (Nat.le_of_ble_eq_true rfl)⟩ dX2_init_157
                  · exact absurd (by decide) cc
      · skip
        have h29 : t < 48 := Nat.not_le.mp (fun z => cc ((nI_leI (a := 48) (b := t) (by omega) (by omega)).mpr z))
        refine lv_aload_n hx hb dX2_init_114 rfl (lv_at hl 0 rfl) ?_
        refine gf_X2_18 X hW 0 rfl rfl dX2_init_115 ?_
        refine lv_iload_n hx hb dX2_init_118 rfl (lv_at hl 1 rfl) ?_
        refine lv_iconst (v := (-1)) hx hb dX2_init_119 (by decide) ?_
        refine fz_is X hW 3 t rfl rfl (by omega) (by decide) dX2_init_120 (fun H locs hW => ?_)
        refine lv_iinc (v := nI (t + 1)) (lv' := [(1, .int (nI (t + 1))), (0, .ref h0)]) hx hb dX2_init_121 hl (k := 1) rfl (nI_1 _) (by decide) rfl (fun ls hl => ?_)
        refine lv_goto (tgt := 108) hx hb dX2_init_124 (by decide) ?_
        exact ih (t + 1) (by omega) (by omega) _ _ _ (fz_cast (congrArg (fun z => ([(h0, .inr (2, [.ref q1, .ref q2, .ref q3, .ref q4, .ref q5, .ref q6, .ref q7, .ref q8, .int 0, .ref q9, .ref q11, .int 0, .int 0, .int 0])), (q1, .inl (g.2 0, 48, .inl (fun _ => 0))), (q2, .inl (g.2 0, 48, .inl (fun _ => 0))), (q3, .inl (g.2 0, 48, .inl z)), (q4, .inl (g.2 0, 48, .inl (fun _ => 0))), (q5, .inl (g.2 0, 48, .inl (fun _ => 0))), (q6, .inl (g.2 0, 48, .inl (fun _ => 0))), (q7, .inl (g.2 0, 48, .inl (fun _ => 0))), (q8, .inl (g.2 3, 5, .inr (.inr (.inr (.inr (fun _ => none)))))), (q9, .inr (1, [.ref q10, .int 0])), (q10, .inl (g.2 0, 8, .inl (fun _ => 0))), (q11, .inl (g.2 0, 4, .inl (fun _ => 0)))] : va_W)) (fz_to_s (fun _ => -1) (fun _ => 0) t rfl)) hW) (lv_sub hl [1, 0] rfl)
  exact loop 49 0 (by omega) (by omega) _ _ _ (fz_cast (congrArg (fun z => ([(h0, .inr (2, [.ref q1, .ref q2, .ref q3, .ref q4, .ref q5, .ref q6, .ref q7, .ref q8, .int 0, .ref q9, .ref q11, .int 0, .int 0, .int 0])), (q1, .inl (g.2 0, 48, .inl (fun _ => 0))), (q2, .inl (g.2 0, 48, .inl (fun _ => 0))), (q3, .inl (g.2 0, 48, .inl z)), (q4, .inl (g.2 0, 48, .inl (fun _ => 0))), (q5, .inl (g.2 0, 48, .inl (fun _ => 0))), (q6, .inl (g.2 0, 48, .inl (fun _ => 0))), (q7, .inl (g.2 0, 48, .inl (fun _ => 0))), (q8, .inl (g.2 3, 5, .inr (.inr (.inr (.inr (fun _ => none)))))), (q9, .inr (1, [.ref q10, .int 0])), (q10, .inl (g.2 0, 8, .inl (fun _ => 0))), (q11, .inl (g.2 0, 4, .inl (fun _ => 0)))] : va_W)) (fz_to_0 (fun _ => -1) (fun _ => 0)).symm) hW) (lv_sub hl [1, 0] rfl)
set_option maxHeartbeats 4000000 in
set_option maxRecDepth 100000 in
theorem c_X3_init (l : Launch) (g : GG) (h0 : Nat) : fz_CN l g yX3_init cX3_init 1 3 34 798 65 [.ref h0] [(h0, .inr (3, [.null, .null]))] (fun W => ∃ a b : Nat → Nat, W = FW g h0 a b SV0 SV0) := by
  refine fz_CN.of (by decide) (Nat.le_of_ble_eq_true rfl) ?_
  intro p e s m args below meth c A ls X hin hW hl
  have hx := X.1
  have hb := X.2.1
  have hl : lv_has ls 1 [(0, .ref h0)] := hl
  have X : fz_X p s m meth c RX3 cX3_init 1 none g A := X
  have hin : meth.name = "<init>" := hin
  have hW : fz_W g A s [(h0, .inr (3, [.null, .null]))] s.heap _ := hW
  refine lv_aload_n hx hb dX3_init_0 rfl (lv_at hl 0 rfl) ?_
  refine fz_oi X hl oi_X3 oi_i oi_c (Nat.le_of_ble_eq_true rfl) (Nat.le_of_ble_eq_true rfl) dX3_init_1 ?_
  refine lv_aload_n hx hb dX3_init_4 rfl (lv_at hl 0 rfl) ?_
  refine fz_nw X hW (ci := 2) (fs := [.null, .null, .null, .null, .null, .null, .null, .null, .int 0, .null, .null, .int 0, .int 0, .int 0]) inX2 rfl tyX2 tyX2_ok cl_X3_7 ib_X2 ii_X2 (fun j hj => by rcases (show j = 0 ∨ j = 1 ∨ j = 2 ∨ j = 3 ∨ j = 4 ∨ j = 5 ∨ j = 6 ∨ j = 7 ∨ j = 8 ∨ j = 9 ∨ j = 10 ∨ j = 11 ∨ j = 12 ∨ j = 13 by omega) with rfl | rfl | rfl | rfl | rfl | rfl | rfl | rfl | rfl | rfl | rfl | rfl | rfl | rfl <;> rfl) (Nat.le_of_ble_eq_true rfl) (Nat.le_of_ble_eq_true rfl) dX3_init_5 (fun q1 H hW => ?_)
  have hW : fz_W g A s [(h0, .inr (3, [.null, .null])), (q1, .inr (2, [.null, .null, .null, .null, .null, .null, .null, .null, .int 0, .null, .null, .int 0, .int 0, .int 0]))] H _ := hW
  refine lv_dup hx hb dX3_init_8 rfl ?_
  refine fz_cI X hW (wc := [(q1, .inr (2, [.null, .null, .null, .null, .null, .null, .null, .null, .int 0, .null, .null, .int 0, .int 0, .int 0]))]) (wr := [(h0, .inr (3, [.null, .null]))]) [1] [0] (c_X2_init l g q1) lk_X3_9 rfl rfl rfl (by decide) (by decide) ⟨(Nat.le_of_ble_eq_true rfl), (Nat.le_of_ble_eq_true rfl)⟩ hl (Nat.le_of_ble_eq_true rfl) dX3_init_9 ⟨(Nat.le_of_ble_eq_true rfl), (Nat.le_of_ble_eq_true rfl)⟩ (fun W1 H locs hK hW => ?_)
  obtain ⟨a, rfl, rfl⟩ := hK
  have hW : fz_W g A s ((h0, .inr (3, [.null, .null])) :: SW g a SV0) H _ := hW
  refine qf_X3_10 X hin hW 0 rfl (Nat.le_of_ble_eq_true rfl) dX3_init_12 (fun H locs hW => ?_)
  have hW : fz_W g A s ((h0, .inr (3, [.ref (a 0), .null])) :: SW g a SV0) H _ := hW
  refine lv_aload_n hx hb dX3_init_15 rfl (lv_at hl 0 rfl) ?_
  refine fz_nw X hW (ci := 2) (fs := [.null, .null, .null, .null, .null, .null, .null, .null, .int 0, .null, .null, .int 0, .int 0, .int 0]) inX2 rfl tyX2 tyX2_ok cl_X3_7 ib_X2 ii_X2 (fun j hj => by rcases (show j = 0 ∨ j = 1 ∨ j = 2 ∨ j = 3 ∨ j = 4 ∨ j = 5 ∨ j = 6 ∨ j = 7 ∨ j = 8 ∨ j = 9 ∨ j = 10 ∨ j = 11 ∨ j = 12 ∨ j = 13 by omega) with rfl | rfl | rfl | rfl | rfl | rfl | rfl | rfl | rfl | rfl | rfl | rfl | rfl | rfl <;> rfl) (Nat.le_of_ble_eq_true rfl) (Nat.le_of_ble_eq_true rfl) dX3_init_16 (fun q2 H hW => ?_)
  refine lv_dup hx hb dX3_init_19 rfl ?_
  refine fz_cI X hW (wc := [(q2, .inr (2, [.null, .null, .null, .null, .null, .null, .null, .null, .int 0, .null, .null, .int 0, .int 0, .int 0]))]) (wr := ((h0, .inr (3, [.ref (a 0), .null])) :: SW g a SV0)) [18] [0, 1, 2, 3, 4, 5, 6, 7, 8, 9, 10, 11, 12, 13, 14, 15, 16, 17] (c_X2_init l g q2) lk_X3_9 rfl rfl rfl (by decide) (by decide) ⟨(Nat.le_of_ble_eq_true rfl), (Nat.le_of_ble_eq_true rfl)⟩ hl (Nat.le_of_ble_eq_true rfl) dX3_init_20 ⟨(Nat.le_of_ble_eq_true rfl), (Nat.le_of_ble_eq_true rfl)⟩ (fun W1 H locs hK hW => ?_)
  obtain ⟨b, rfl, rfl⟩ := hK
  have hW : fz_W g A s ((h0, .inr (3, [.ref (a 0), .null])) :: (SW g a SV0 ++ SW g b SV0)) H _ := hW
  refine qf_X3_16 X hin hW 0 rfl (Nat.le_of_ble_eq_true rfl) dX3_init_23 (fun H locs hW => ?_)
  exact fz_rvN X hW ⟨a, b, rfl⟩ ⟨(Nat.le_of_ble_eq_true rfl), (Nat.le_of_ble_eq_true rfl)⟩ dX3_init_26
