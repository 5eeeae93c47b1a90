def kpF (kept f : Nat → Int32) (a : Nat) : Nat → (Nat → Int32)
  | 0 => kept
  | n + 1 => upd (kpF kept f a n) (a + n) (f n)
abbrev KPW (g : GG) (o : Nat → Nat) (m : MV) (q N : Nat) (f : Nat → Int32) : va_W := [(o 0, OBm o m), (o 14, .inl (g.2 0, 300, .inl m.kept)), (q, .inl (g.2 0, N, .inl f))]
def kpV (m : MV) (f : Nat → Int32) (n : Nat) : MV := (m.keptS (kpF m.kept f m.at_ n)).at_S (m.at_ + n)
def kbF (m : MV) (f : Nat → Int32) (n : Nat) : Nat → Int32 := fz_to (fun j => m.kept (m.at_ + j)) f n
set_option maxHeartbeats 4000000 in
set_option maxRecDepth 100000 in
theorem c_X4_keepsF48 (l : Launch) (g : GG) (o : Nat → Nat) (m0 : MV) (q : Nat) (f : Nat → Int32) (ha : m0.at_ + 48 ≤ 300) : fz_C l g yX4_keeps cX4_keeps 5 none 0 0 [.ref (o 0), .ref q, .int 48, .int 0] (KPW g o m0 q 48 f) (KPW g o (kpV m0 f 48) q 48 f) none := by
  refine fz_C.of (by decide) (Nat.le_of_ble_eq_true rfl) ?_
  intro p e s m args below meth c A ls X hW hl
  have hx := X.1
  have hb := X.2.1
  have hl : lv_has ls 5 [(0, .ref (o 0)), (1, .ref q), (2, .int 48), (3, .int 0)] := hl
  have X : fz_X p s m meth c RX4 cX4_keeps 5 none g A := X
  have hW : fz_W g A s (KPW g o m0 q 48 f) s.heap [] := hW
  refine lv_iconst (v := 0) hx hb dX4_keeps_0 (by decide) ?_
  refine lv_istore (lv' := [(4, .int 0), (0, .ref (o 0)), (1, .ref q), (2, .int 48), (3, .int 0)]) hx hb dX4_keeps_1 hl (by decide) rfl (fun ls hl => ?_)
  have loop3 : ∀ (k : Nat) (y : Nat), y ≤ 48 → 48 < y + k → ∀ (H : Heap) (locs : List Loc) (ls : Array Slot), fz_W g A s (KPW g o (kpV m0 f y) q 48 f) H locs → lv_has ls 5 [(0, .ref (o 0)), (1, .ref q), (2, .int 48), (3, .int 0), (4, .int (nI y))] → W p l e (fz_R 0 0 0 0) s m args below meth c H locs 0 0 (MQ below (fz_Q g (KPW g o (kpV m0 f 48) q 48 f) none A) args s 0 0 A) (F0 m 3 ls []) := by
    intro k
    induction k with
    | zero =>
      intro y hy hk
      omega
    | succ k ih3 =>
      intro y hy hk H locs ls hW hl
      refine lv_iload hx hb dX4_keeps_3 (lv_at hl 4 rfl) ?_
      refine lv_iload_n hx hb dX4_keeps_5 rfl (lv_at hl 2 rfl) ?_
      refine lv_icmp_ge (tgt := 58) hx hb dX4_keeps_6 (by decide) (fun c6 => ?_) (fun c6 => ?_)
      · skip
        have h6 : 48 ≤ y := (nI_leI (a := 48) (b := y) (by omega) (by omega)).mp c6
        have e6 : y = 48 := by omega
        have hl := lv_sub hl [0, 1, 2, 3] rfl
        have hl : lv_has ls 5 [(0, .ref (o 0)), (1, .ref q), (2, .int 48), (3, .int 0)] := hl
        exact fz_rv X (fz_cast (by rw [e6]) hW) dX4_keeps_58
      · skip
        have h6 : y < 48 := Nat.not_le.mp (fun z => c6 ((nI_leI (a := 48) (b := y) (by omega) (by omega)).mpr z))
        refine lv_iload_n hx hb dX4_keeps_9 rfl (lv_at hl 3 rfl) ?_
        refine lv_if_eq (tgt := 29) hx hb dX4_keeps_10 (by decide) (fun c10 => ?_) (fun c10 => ?_)
        · skip
          refine lv_aload_n hx hb dX4_keeps_29 rfl (lv_at hl 0 rfl) ?_
          refine gf_X4_50 X hW 0 rfl rfl dX4_keeps_30 ?_
          refine lv_aload_n hx hb dX4_keeps_33 rfl (lv_at hl 0 rfl) ?_
          refine gf_X4_130 X hW 0 rfl rfl dX4_keeps_34 ?_
          refine lv_aload_n hx hb dX4_keeps_37 rfl (lv_at hl 1 rfl) ?_
          refine lv_iload hx hb dX4_keeps_38 (lv_at hl 4 rfl) ?_
          refine fz_il X hW 2 (y) rfl rfl (by omega) (by decide) dX4_keeps_40 ?_
          refine fz_is X hW 1 (m0.at_ + y) rfl rfl (by omega) (by decide) dX4_keeps_41 (fun H locs hW => ?_)
          refine lv_aload_n hx hb dX4_keeps_42 rfl (lv_at hl 0 rfl) ?_
          refine lv_dup hx hb dX4_keeps_43 rfl ?_
          refine gf_X4_130 X hW 0 rfl rfl dX4_keeps_44 ?_
          refine lv_iconst (v := 1) hx hb dX4_keeps_47 (by decide) ?_
          refine lv_iadd hx hb dX4_keeps_48 ?_
          refine fz_top (x' := nI (m0.at_ + y + 1)) (nI_1 _) ?_
          refine pf_X4_130 X hW 0 rfl (Nat.le_of_ble_eq_true rfl) dX4_keeps_49 (fun H locs hW => ?_)
          refine lv_iinc (v := nI (y + 1)) (lv' := [(4, .int (nI (y + 1))), (0, .ref (o 0)), (1, .ref q), (2, .int 48), (3, .int 0)]) hx hb dX4_keeps_52 hl (k := 4) rfl (nI_1 _) (by decide) rfl (fun ls hl => ?_)
          refine lv_goto (tgt := 3) hx hb dX4_keeps_55 (by decide) ?_
          exact ih3 (y + 1) (by omega) (by omega) _ _ _ (fz_cast (rfl) hW) (lv_sub hl [1, 2, 3, 4, 0] rfl)
        · first | exact absurd c10 (by decide) | exact absurd (by decide) c10
  exact loop3 49 0 (by omega) (by omega) _ _ _ (fz_cast (rfl) hW) (lv_sub hl [1, 2, 3, 4, 0] rfl)
set_option maxHeartbeats 4000000 in
set_option maxRecDepth 100000 in
theorem c_X4_keepsB48 (l : Launch) (g : GG) (o : Nat → Nat) (m0 : MV) (q : Nat) (f : Nat → Int32) (ha : m0.at_ + 48 ≤ 300) : fz_C l g yX4_keeps cX4_keeps 5 none 0 0 [.ref (o 0), .ref q, .int 48, .int 1] (KPW g o m0 q 48 f) (KPW g o (m0.at_S (m0.at_ + 48)) q 48 (kbF m0 f 48)) none := by
  refine fz_C.of (by decide) (Nat.le_of_ble_eq_true rfl) ?_
  intro p e s m args below meth c A ls X hW hl
  have hx := X.1
  have hb := X.2.1
  have hl : lv_has ls 5 [(0, .ref (o 0)), (1, .ref q), (2, .int 48), (3, .int 1)] := hl
  have X : fz_X p s m meth c RX4 cX4_keeps 5 none g A := X
  have hW : fz_W g A s (KPW g o m0 q 48 f) s.heap [] := hW
  refine lv_iconst (v := 0) hx hb dX4_keeps_0 (by decide) ?_
  refine lv_istore (lv' := [(4, .int 0), (0, .ref (o 0)), (1, .ref q), (2, .int 48), (3, .int 1)]) hx hb dX4_keeps_1 hl (by decide) rfl (fun ls hl => ?_)
  have loop3 : ∀ (k : Nat) (y : Nat), y ≤ 48 → 48 < y + k → ∀ (H : Heap) (locs : List Loc) (ls : Array Slot), fz_W g A s (KPW g o (m0.at_S (m0.at_ + y)) q 48 (kbF m0 f y)) H locs → lv_has ls 5 [(0, .ref (o 0)), (1, .ref q), (2, .int 48), (3, .int 1), (4, .int (nI y))] → W p l e (fz_R 0 0 0 0) s m args below meth c H locs 0 0 (MQ below (fz_Q g (KPW g o (m0.at_S (m0.at_ + 48)) q 48 (kbF m0 f 48)) none A) args s 0 0 A) (F0 m 3 ls []) := by
    intro k
    induction k with
    | zero =>
      intro y hy hk
      omega
    | succ k ih3 =>
      intro y hy hk H locs ls hW hl
      refine lv_iload hx hb dX4_keeps_3 (lv_at hl 4 rfl) ?_
      refine lv_iload_n hx hb dX4_keeps_5 rfl (lv_at hl 2 rfl) ?_
      refine lv_icmp_ge (tgt := 58) hx hb dX4_keeps_6 (by decide) (fun c6 => ?_) (fun c6 => ?_)
      · skip
        have h6 : 48 ≤ y := (nI_leI (a := 48) (b := y) (by omega) (by omega)).mp c6
        have e6 : y = 48 := by omega
        have hl := lv_sub hl [0, 1, 2, 3] rfl
        have hl : lv_has ls 5 [(0, .ref (o 0)), (1, .ref q), (2, .int 48), (3, .int 1)] := hl
        exact fz_rv X (fz_cast (by rw [e6]) hW) dX4_keeps_58
      · skip
        have h6 : y < 48 := Nat.not_le.mp (fun z => c6 ((nI_leI (a := 48) (b := y) (by omega) (by omega)).mpr z))
        refine lv_iload_n hx hb dX4_keeps_9 rfl (lv_at hl 3 rfl) ?_
        refine lv_if_eq (tgt := 29) hx hb dX4_keeps_10 (by decide) (fun c10 => ?_) (fun c10 => ?_)
        · first | exact absurd c10 (by decide) | exact absurd (by decide) c10
        · skip
          refine lv_aload_n hx hb dX4_keeps_13 rfl (lv_at hl 1 rfl) ?_
          refine lv_iload hx hb dX4_keeps_14 (lv_at hl 4 rfl) ?_
          refine lv_aload_n hx hb dX4_keeps_16 rfl (lv_at hl 0 rfl) ?_
          refine gf_X4_50 X hW 0 rfl rfl dX4_keeps_17 ?_
          refine lv_aload_n hx hb dX4_keeps_20 rfl (lv_at hl 0 rfl) ?_
          refine gf_X4_130 X hW 0 rfl rfl dX4_keeps_21 ?_
          refine fz_il X hW 1 (m0.at_ + y) rfl rfl (by omega) (by decide) dX4_keeps_24 ?_
          refine fz_is X hW 2 (y) rfl rfl (by omega) (by decide) dX4_keeps_25 (fun H locs hW => ?_)
          refine lv_goto (tgt := 42) hx hb dX4_keeps_26 (by decide) ?_
          refine lv_aload_n hx hb dX4_keeps_42 rfl (lv_at hl 0 rfl) ?_
          refine lv_dup hx hb dX4_keeps_43 rfl ?_
          refine gf_X4_130 X hW 0 rfl rfl dX4_keeps_44 ?_
          refine lv_iconst (v := 1) hx hb dX4_keeps_47 (by decide) ?_
          refine lv_iadd hx hb dX4_keeps_48 ?_
          refine fz_top (x' := nI (m0.at_ + y + 1)) (nI_1 _) ?_
          refine pf_X4_130 X hW 0 rfl (Nat.le_of_ble_eq_true rfl) dX4_keeps_49 (fun H locs hW => ?_)
          refine lv_iinc (v := nI (y + 1)) (lv' := [(4, .int (nI (y + 1))), (0, .ref (o 0)), (1, .ref q), (2, .int 48), (3, .int 1)]) hx hb dX4_keeps_52 hl (k := 4) rfl (nI_1 _) (by decide) rfl (fun ls hl => ?_)
          refine lv_goto (tgt := 3) hx hb dX4_keeps_55 (by decide) ?_
          exact ih3 (y + 1) (by omega) (by omega) _ _ _ (fz_cast (congrArg (KPW g o (m0.at_S (m0.at_ + (y + 1))) q 48) (fz_to_s (fun j => m0.kept (m0.at_ + j)) f y rfl)) hW) (lv_sub hl [1, 2, 3, 4, 0] rfl)
  exact loop3 49 0 (by omega) (by omega) _ _ _ (fz_cast (congrArg (KPW g o m0 q 48) (fz_to_0 _ _).symm) hW) (lv_sub hl [1, 2, 3, 4, 0] rfl)
set_option maxHeartbeats 4000000 in
set_option maxRecDepth 100000 in
theorem c_X4_keepsF4 (l : Launch) (g : GG) (o : Nat → Nat) (m0 : MV) (q : Nat) (f : Nat → Int32) (ha : m0.at_ + 4 ≤ 300) : fz_C l g yX4_keeps cX4_keeps 5 none 0 0 [.ref (o 0), .ref q, .int 4, .int 0] (KPW g o m0 q 4 f) (KPW g o (kpV m0 f 4) q 4 f) none := by
  refine fz_C.of (by decide) (Nat.le_of_ble_eq_true rfl) ?_
  intro p e s m args below meth c A ls X hW hl
  have hx := X.1
  have hb := X.2.1
  have hl : lv_has ls 5 [(0, .ref (o 0)), (1, .ref q), (2, .int 4), (3, .int 0)] := hl
  have X : fz_X p s m meth c RX4 cX4_keeps 5 none g A := X
  have hW : fz_W g A s (KPW g o m0 q 4 f) s.heap [] := hW
  refine lv_iconst (v := 0) hx hb dX4_keeps_0 (by decide) ?_
  refine lv_istore (lv' := [(4, .int 0), (0, .ref (o 0)), (1, .ref q), (2, .int 4), (3, .int 0)]) hx hb dX4_keeps_1 hl (by decide) rfl (fun ls hl => ?_)
  have loop3 : ∀ (k : Nat) (y : Nat), y ≤ 4 → 4 < y + k → ∀ (H : Heap) (locs : List Loc) (ls : Array Slot), fz_W g A s (KPW g o (kpV m0 f y) q 4 f) H locs → lv_has ls 5 [(0, .ref (o 0)), (1, .ref q), (2, .int 4), (3, .int 0), (4, .int (nI y))] → W p l e (fz_R 0 0 0 0) s m args below meth c H locs 0 0 (MQ below (fz_Q g (KPW g o (kpV m0 f 4) q 4 f) none A) args s 0 0 A) (F0 m 3 ls []) := by
    intro k
    induction k with
    | zero =>
      intro y hy hk
      omega
    | succ k ih3 =>
      intro y hy hk H locs ls hW hl
      refine lv_iload hx hb dX4_keeps_3 (lv_at hl 4 rfl) ?_
      refine lv_iload_n hx hb dX4_keeps_5 rfl (lv_at hl 2 rfl) ?_
      refine lv_icmp_ge (tgt := 58) hx hb dX4_keeps_6 (by decide) (fun c6 => ?_) (fun c6 => ?_)
      · skip
        have h6 : 4 ≤ y := (nI_leI (a := 4) (b := y) (by omega) (by omega)).mp c6
        have e6 : y = 4 := by omega
        have hl := lv_sub hl [0, 1, 2, 3] rfl
        have hl : lv_has ls 5 [(0, .ref (o 0)), (1, .ref q), (2, .int 4), (3, .int 0)] := hl
        exact fz_rv X (fz_cast (by rw [e6]) hW) dX4_keeps_58
      · skip
        have h6 : y < 4 := Nat.not_le.mp (fun z => c6 ((nI_leI (a := 4) (b := y) (by omega) (by omega)).mpr z))
        refine lv_iload_n hx hb dX4_keeps_9 rfl (lv_at hl 3 rfl) ?_
        refine lv_if_eq (tgt := 29) hx hb dX4_keeps_10 (by decide) (fun c10 => ?_) (fun c10 => ?_)
        · skip
          refine lv_aload_n hx hb dX4_keeps_29 rfl (lv_at hl 0 rfl) ?_
          refine gf_X4_50 X hW 0 rfl rfl dX4_keeps_30 ?_
          refine lv_aload_n hx hb dX4_keeps_33 rfl (lv_at hl 0 rfl) ?_
          refine gf_X4_130 X hW 0 rfl rfl dX4_keeps_34 ?_
          refine lv_aload_n hx hb dX4_keeps_37 rfl (lv_at hl 1 rfl) ?_
          refine lv_iload hx hb dX4_keeps_38 (lv_at hl 4 rfl) ?_
          refine fz_il X hW 2 (y) rfl rfl (by omega) (by decide) dX4_keeps_40 ?_
          refine fz_is X hW 1 (m0.at_ + y) rfl rfl (by omega) (by decide) dX4_keeps_41 (fun H locs hW => ?_)
          refine lv_aload_n hx hb dX4_keeps_42 rfl (lv_at hl 0 rfl) ?_
          refine lv_dup hx hb dX4_keeps_43 rfl ?_
          refine gf_X4_130 X hW 0 rfl rfl dX4_keeps_44 ?_
          refine lv_iconst (v := 1) hx hb dX4_keeps_47 (by decide) ?_
          refine lv_iadd hx hb dX4_keeps_48 ?_
          refine fz_top (x' := nI (m0.at_ + y + 1)) (nI_1 _) ?_
          refine pf_X4_130 X hW 0 rfl (Nat.le_of_ble_eq_true rfl) dX4_keeps_49 (fun H locs hW => ?_)
          refine lv_iinc (v := nI (y + 1)) (lv' := [(4, .int (nI (y + 1))), (0, .ref (o 0)), (1, .ref q), (2, .int 4), (3, .int 0)]) hx hb dX4_keeps_52 hl (k := 4) rfl (nI_1 _) (by decide) rfl (fun ls hl => ?_)
          refine lv_goto (tgt := 3) hx hb dX4_keeps_55 (by decide) ?_
          exact ih3 (y + 1) (by omega) (by omega) _ _ _ (fz_cast (rfl) hW) (lv_sub hl [1, 2, 3, 4, 0] rfl)
        · first | exact absurd c10 (by decide) | exact absurd (by decide) c10
  exact loop3 5 0 (by omega) (by omega) _ _ _ (fz_cast (rfl) hW) (lv_sub hl [1, 2, 3, 4, 0] rfl)
set_option maxHeartbeats 4000000 in
set_option maxRecDepth 100000 in
theorem c_X4_keepsB4 (l : Launch) (g : GG) (o : Nat → Nat) (m0 : MV) (q : Nat) (f : Nat → Int32) (ha : m0.at_ + 4 ≤ 300) : fz_C l g yX4_keeps cX4_keeps 5 none 0 0 [.ref (o 0), .ref q, .int 4, .int 1] (KPW g o m0 q 4 f) (KPW g o (m0.at_S (m0.at_ + 4)) q 4 (kbF m0 f 4)) none := by
  refine fz_C.of (by decide) (Nat.le_of_ble_eq_true rfl) ?_
  intro p e s m args below meth c A ls X hW hl
  have hx := X.1
  have hb := X.2.1
  have hl : lv_has ls 5 [(0, .ref (o 0)), (1, .ref q), (2, .int 4), (3, .int 1)] := hl
  have X : fz_X p s m meth c RX4 cX4_keeps 5 none g A := X
  have hW : fz_W g A s (KPW g o m0 q 4 f) s.heap [] := hW
  refine lv_iconst (v := 0) hx hb dX4_keeps_0 (by decide) ?_
  refine lv_istore (lv' := [(4, .int 0), (0, .ref (o 0)), (1, .ref q), (2, .int 4), (3, .int 1)]) hx hb dX4_keeps_1 hl (by decide) rfl (fun ls hl => ?_)
  have loop3 : ∀ (k : Nat) (y : Nat), y ≤ 4 → 4 < y + k → ∀ (H : Heap) (locs : List Loc) (ls : Array Slot), fz_W g A s (KPW g o (m0.at_S (m0.at_ + y)) q 4 (kbF m0 f y)) H locs → lv_has ls 5 [(0, .ref (o 0)), (1, .ref q), (2, .int 4), (3, .int 1), (4, .int (nI y))] → W p l e (fz_R 0 0 0 0) s m args below meth c H locs 0 0 (MQ below (fz_Q g (KPW g o (m0.at_S (m0.at_ + 4)) q 4 (kbF m0 f 4)) none A) args s 0 0 A) (F0 m 3 ls []) := by
    intro k
    induction k with
    | zero =>
      intro y hy hk
      omega
    | succ k ih3 =>
      intro y hy hk H locs ls hW hl
      refine lv_iload hx hb dX4_keeps_3 (lv_at hl 4 rfl) ?_
      refine lv_iload_n hx hb dX4_keeps_5 rfl (lv_at hl 2 rfl) ?_
      refine lv_icmp_ge (tgt := 58) hx hb dX4_keeps_6 (by decide) (fun c6 => ?_) (fun c6 => ?_)
      · skip
        have h6 : 4 ≤ y := (nI_leI (a := 4) (b := y) (by omega) (by omega)).mp c6
        have e6 : y = 4 := by omega
        have hl := lv_sub hl [0, 1, 2, 3] rfl
        have hl : lv_has ls 5 [(0, .ref (o 0)), (1, .ref q), (2, .int 4), (3, .int 1)] := hl
        exact fz_rv X (fz_cast (by rw [e6]) hW) dX4_keeps_58
      · skip
        have h6 : y < 4 := Nat.not_le.mp (fun z => c6 ((nI_leI (a := 4) (b := y) (by omega) (by omega)).mpr z))
        refine lv_iload_n hx hb dX4_keeps_9 rfl (lv_at hl 3 rfl) ?_
        refine lv_if_eq (tgt := 29) hx hb dX4_keeps_10 (by decide) (fun c10 => ?_) (fun c10 => ?_)
        · first | exact absurd c10 (by decide) | exact absurd (by decide) c10
        · skip
          refine lv_aload_n hx hb dX4_keeps_13 rfl (lv_at hl 1 rfl) ?_
          refine lv_iload hx hb dX4_keeps_14 (lv_at hl 4 rfl) ?_
          refine lv_aload_n hx hb dX4_keeps_16 rfl (lv_at hl 0 rfl) ?_
          refine gf_X4_50 X hW 0 rfl rfl dX4_keeps_17 ?_
          refine lv_aload_n hx hb dX4_keeps_20 rfl (lv_at hl 0 rfl) ?_
          refine gf_X4_130 X hW 0 rfl rfl dX4_keeps_21 ?_
          refine fz_il X hW 1 (m0.at_ + y) rfl rfl (by omega) (by decide) dX4_keeps_24 ?_
          refine fz_is X hW 2 (y) rfl rfl (by omega) (by decide) dX4_keeps_25 (fun H locs hW => ?_)
          refine lv_goto (tgt := 42) hx hb dX4_keeps_26 (by decide) ?_
          refine lv_aload_n hx hb dX4_keeps_42 rfl (lv_at hl 0 rfl) ?_
          refine lv_dup hx hb dX4_keeps_43 rfl ?_
          refine gf_X4_130 X hW 0 rfl rfl dX4_keeps_44 ?_
          refine lv_iconst (v := 1) hx hb dX4_keeps_47 (by decide) ?_
          refine lv_iadd hx hb dX4_keeps_48 ?_
          refine fz_top (x' := nI (m0.at_ + y + 1)) (nI_1 _) ?_
          refine pf_X4_130 X hW 0 rfl (Nat.le_of_ble_eq_true rfl) dX4_keeps_49 (fun H locs hW => ?_)
          refine lv_iinc (v := nI (y + 1)) (lv' := [(4, .int (nI (y + 1))), (0, .ref (o 0)), (1, .ref q), (2, .int 4), (3, .int 1)]) hx hb dX4_keeps_52 hl (k := 4) rfl (nI_1 _) (by decide) rfl (fun ls hl => ?_)
          refine lv_goto (tgt := 3) hx hb dX4_keeps_55 (by decide) ?_
          exact ih3 (y + 1) (by omega) (by omega) _ _ _ (fz_cast (congrArg (KPW g o (m0.at_S (m0.at_ + (y + 1))) q 4) (fz_to_s (fun j => m0.kept (m0.at_ + j)) f y rfl)) hW) (lv_sub hl [1, 2, 3, 4, 0] rfl)
  exact loop3 5 0 (by omega) (by omega) _ _ _ (fz_cast (congrArg (KPW g o m0 q 4) (fz_to_0 _ _).symm) hW) (lv_sub hl [1, 2, 3, 4, 0] rfl)
set_option maxHeartbeats 4000000 in
set_option maxRecDepth 100000 in
theorem c_X4_keepsF9 (l : Launch) (g : GG) (o : Nat → Nat) (m0 : MV) (q : Nat) (f : Nat → Int32) (ha : m0.at_ + 9 ≤ 300) : fz_C l g yX4_keeps cX4_keeps 5 none 0 0 [.ref (o 0), .ref q, .int 9, .int 0] (KPW g o m0 q 9 f) (KPW g o (kpV m0 f 9) q 9 f) none := by
  refine fz_C.of (by decide) (Nat.le_of_ble_eq_true rfl) ?_
  intro p e s m args below meth c A ls X hW hl
  have hx := X.1
  have hb := X.2.1
  have hl : lv_has ls 5 [(0, .ref (o 0)), (1, .ref q), (2, .int 9), (3, .int 0)] := hl
  have X : fz_X p s m meth c RX4 cX4_keeps 5 none g A := X
  have hW : fz_W g A s (KPW g o m0 q 9 f) s.heap [] := hW
  refine lv_iconst (v := 0) hx hb dX4_keeps_0 (by decide) ?_
  refine lv_istore (lv' := [(4, .int 0), (0, .ref (o 0)), (1, .ref q), (2, .int 9), (3, .int 0)]) hx hb dX4_keeps_1 hl (by decide) rfl (fun ls hl => ?_)
  have loop3 : ∀ (k : Nat) (y : Nat), y ≤ 9 → 9 < y + k → ∀ (H : Heap) (locs : List Loc) (ls : Array Slot), fz_W g A s (KPW g o (kpV m0 f y) q 9 f) H locs → lv_has ls 5 [(0, .ref (o 0)), (1, .ref q), (2, .int 9), (3, .int 0), (4, .int (nI y))] → W p l e (fz_R 0 0 0 0) s m args below meth c H locs 0 0 (MQ below (fz_Q g (KPW g o (kpV m0 f 9) q 9 f) none A) args s 0 0 A) (F0 m 3 ls []) := by
    intro k
    induction k with
    | zero =>
      intro y hy hk
      omega
    | succ k ih3 =>
      intro y hy hk H locs ls hW hl
      refine lv_iload hx hb dX4_keeps_3 (lv_at hl 4 rfl) ?_
      refine lv_iload_n hx hb dX4_keeps_5 rfl (lv_at hl 2 rfl) ?_
      refine lv_icmp_ge (tgt := 58) hx hb dX4_keeps_6 (by decide) (fun c6 => ?_) (fun c6 => ?_)
      · skip
        have h6 : 9 ≤ y := (nI_leI (a := 9) (b := y) (by omega) (by omega)).mp c6
        have e6 : y = 9 := by omega
        have hl := lv_sub hl [0, 1, 2, 3] rfl
        have hl : lv_has ls 5 [(0, .ref (o 0)), (1, .ref q), (2, .int 9), (3, .int 0)] := hl
        exact fz_rv X (fz_cast (by rw [e6]) hW) dX4_keeps_58
      · skip
        have h6 : y < 9 := Nat.not_le.mp (fun z => c6 ((nI_leI (a := 9) (b := y) (by omega) (by omega)).mpr z))
        refine lv_iload_n hx hb dX4_keeps_9 rfl (lv_at hl 3 rfl) ?_
        refine lv_if_eq (tgt := 29) hx hb dX4_keeps_10 (by decide) (fun c10 => ?_) (fun c10 => ?_)
        · skip
          refine lv_aload_n hx hb dX4_keeps_29 rfl (lv_at hl 0 rfl) ?_
          refine gf_X4_50 X hW 0 rfl rfl dX4_keeps_30 ?_
          refine lv_aload_n hx hb dX4_keeps_33 rfl (lv_at hl 0 rfl) ?_
          refine gf_X4_130 X hW 0 rfl rfl dX4_keeps_34 ?_
          refine lv_aload_n hx hb dX4_keeps_37 rfl (lv_at hl 1 rfl) ?_
          refine lv_iload hx hb dX4_keeps_38 (lv_at hl 4 rfl) ?_
          refine fz_il X hW 2 (y) rfl rfl (by omega) (by decide) dX4_keeps_40 ?_
          refine fz_is X hW 1 (m0.at_ + y) rfl rfl (by omega) (by decide) dX4_keeps_41 (fun H locs hW => ?_)
          refine lv_aload_n hx hb dX4_keeps_42 rfl (lv_at hl 0 rfl) ?_
          refine lv_dup hx hb dX4_keeps_43 rfl ?_
          refine gf_X4_130 X hW 0 rfl rfl dX4_keeps_44 ?_
          refine lv_iconst (v := 1) hx hb dX4_keeps_47 (by decide) ?_
          refine lv_iadd hx hb dX4_keeps_48 ?_
          refine fz_top (x' := nI (m0.at_ + y + 1)) (nI_1 _) ?_
          refine pf_X4_130 X hW 0 rfl (Nat.le_of_ble_eq_true rfl) dX4_keeps_49 (fun H locs hW => ?_)
          refine lv_iinc (v := nI (y + 1)) (lv' := [(4, .int (nI (y + 1))), (0, .ref (o 0)), (1, .ref q), (2, .int 9), (3, .int 0)]) hx hb dX4_keeps_52 hl (k := 4) rfl (nI_1 _) (by decide) rfl (fun ls hl => ?_)
          refine lv_goto (tgt := 3) hx hb dX4_keeps_55 (by decide) ?_
          exact ih3 (y + 1) (by omega) (by omega) _ _ _ (fz_cast (rfl) hW) (lv_sub hl [1, 2, 3, 4, 0] rfl)
        · first | exact absurd c10 (by decide) | exact absurd (by decide) c10
  exact loop3 10 0 (by omega) (by omega) _ _ _ (fz_cast (rfl) hW) (lv_sub hl [1, 2, 3, 4, 0] rfl)
set_option maxHeartbeats 4000000 in
set_option maxRecDepth 100000 in
theorem c_X4_keepsB9 (l : Launch) (g : GG) (o : Nat → Nat) (m0 : MV) (q : Nat) (f : Nat → Int32) (ha : m0.at_ + 9 ≤ 300) : fz_C l g yX4_keeps cX4_keeps 5 none 0 0 [.ref (o 0), .ref q, .int 9, .int 1] (KPW g o m0 q 9 f) (KPW g o (m0.at_S (m0.at_ + 9)) q 9 (kbF m0 f 9)) none := by
  refine fz_C.of (by decide) (Nat.le_of_ble_eq_true rfl) ?_
  intro p e s m args below meth c A ls X hW hl
  have hx := X.1
  have hb := X.2.1
  have hl : lv_has ls 5 [(0, .ref (o 0)), (1, .ref q), (2, .int 9), (3, .int 1)] := hl
  have X : fz_X p s m meth c RX4 cX4_keeps 5 none g A := X
  have hW : fz_W g A s (KPW g o m0 q 9 f) s.heap [] := hW
  refine lv_iconst (v := 0) hx hb dX4_keeps_0 (by decide) ?_
  refine lv_istore (lv' := [(4, .int 0), (0, .ref (o 0)), (1, .ref q), (2, .int 9), (3, .int 1)]) hx hb dX4_keeps_1 hl (by decide) rfl (fun ls hl => ?_)
  have loop3 : ∀ (k : Nat) (y : Nat), y ≤ 9 → 9 < y + k → ∀ (H : Heap) (locs : List Loc) (ls : Array Slot), fz_W g A s (KPW g o (m0.at_S (m0.at_ + y)) q 9 (kbF m0 f y)) H locs → lv_has ls 5 [(0, .ref (o 0)), (1, .ref q), (2, .int 9), (3, .int 1), (4, .int (nI y))] → W p l e (fz_R 0 0 0 0) s m args below meth c H locs 0 0 (MQ below (fz_Q g (KPW g o (m0.at_S (m0.at_ + 9)) q 9 (kbF m0 f 9)) none A) args s 0 0 A) (F0 m 3 ls []) := by
    intro k
    induction k with
    | zero =>
      intro y hy hk
      omega
    | succ k ih3 =>
      intro y hy hk H locs ls hW hl
      refine lv_iload hx hb dX4_keeps_3 (lv_at hl 4 rfl) ?_
      refine lv_iload_n hx hb dX4_keeps_5 rfl (lv_at hl 2 rfl) ?_
      refine lv_icmp_ge (tgt := 58) hx hb dX4_keeps_6 (by decide) (fun c6 => ?_) (fun c6 => ?_)
      · skip
        have h6 : 9 ≤ y := (nI_leI (a := 9) (b := y) (by omega) (by omega)).mp c6
        have e6 : y = 9 := by omega
        have hl := lv_sub hl [0, 1, 2, 3] rfl
        have hl : lv_has ls 5 [(0, .ref (o 0)), (1, .ref q), (2, .int 9), (3, .int 1)] := hl
        exact fz_rv X (fz_cast (by rw [e6]) hW) dX4_keeps_58
      · skip
        have h6 : y < 9 := Nat.not_le.mp (fun z => c6 ((nI_leI (a := 9) (b := y) (by omega) (by omega)).mpr z))
        refine lv_iload_n hx hb dX4_keeps_9 rfl (lv_at hl 3 rfl) ?_
        refine lv_if_eq (tgt := 29) hx hb dX4_keeps_10 (by decide) (fun c10 => ?_) (fun c10 => ?_)
        · first | exact absurd c10 (by decide) | exact absurd (by decide) c10
        · skip
          refine lv_aload_n hx hb dX4_keeps_13 rfl (lv_at hl 1 rfl) ?_
          refine lv_iload hx hb dX4_keeps_14 (lv_at hl 4 rfl) ?_
          refine lv_aload_n hx hb dX4_keeps_16 rfl (lv_at hl 0 rfl) ?_
          refine gf_X4_50 X hW 0 rfl rfl dX4_keeps_17 ?_
          refine lv_aload_n hx hb dX4_keeps_20 rfl (lv_at hl 0 rfl) ?_
          refine gf_X4_130 X hW 0 rfl rfl dX4_keeps_21 ?_
          refine fz_il X hW 1 (m0.at_ + y) rfl rfl (by omega) (by decide) dX4_keeps_24 ?_
          refine fz_is X hW 2 (y) rfl rfl (by omega) (by decide) dX4_keeps_25 (fun H locs hW => ?_)
          refine lv_goto (tgt := 42) hx hb dX4_keeps_26 (by decide) ?_
          refine lv_aload_n hx hb dX4_keeps_42 rfl (lv_at hl 0 rfl) ?_
          refine lv_dup hx hb dX4_keeps_43 rfl ?_
          refine gf_X4_130 X hW 0 rfl rfl dX4_keeps_44 ?_
          refine lv_iconst (v := 1) hx hb dX4_keeps_47 (by decide) ?_
          refine lv_iadd hx hb dX4_keeps_48 ?_
          refine fz_top (x' := nI (m0.at_ + y + 1)) (nI_1 _) ?_
          refine pf_X4_130 X hW 0 rfl (Nat.le_of_ble_eq_true rfl) dX4_keeps_49 (fun H locs hW => ?_)
          refine lv_iinc (v := nI (y + 1)) (lv' := [(4, .int (nI (y + 1))), (0, .ref (o 0)), (1, .ref q), (2, .int 9), (3, .int 1)]) hx hb dX4_keeps_52 hl (k := 4) rfl (nI_1 _) (by decide) rfl (fun ls hl => ?_)
          refine lv_goto (tgt := 3) hx hb dX4_keeps_55 (by decide) ?_
          exact ih3 (y + 1) (by omega) (by omega) _ _ _ (fz_cast (congrArg (KPW g o (m0.at_S (m0.at_ + (y + 1))) q 9) (fz_to_s (fun j => m0.kept (m0.at_ + j)) f y rfl)) hW) (lv_sub hl [1, 2, 3, 4, 0] rfl)
  exact loop3 10 0 (by omega) (by omega) _ _ _ (fz_cast (congrArg (KPW g o m0 q 9) (fz_to_0 _ _).symm) hW) (lv_sub hl [1, 2, 3, 4, 0] rfl)
set_option maxRecDepth 100000 in
theorem ck_farF (l : Launch) (g : GG) (o : Nat → Nat) (m : MV) (ha : m.at_ + 48 ≤ 300) : fz_C l g yX4_keeps cX4_keeps 5 none 0 0 [.ref (o 0), .ref (o 2), .int 48, .int 0] (MW g o m) (MW g o (kpV m m.far 48)) none := fz_C.fr (c_X4_keepsF48 l g o m (o 2) m.far ha) [0, 14, 2] [1, 3, 4, 5, 6, 7, 8, 9, 10, 11, 12, 13] [12, 0, 14, 1, 2, 3, 4, 5, 6, 7, 8, 9, 10, 11, 13] rfl rfl rfl rfl (by decide) rfl rfl
set_option maxRecDepth 100000 in
theorem ck_farB (l : Launch) (g : GG) (o : Nat → Nat) (m : MV) (ha : m.at_ + 48 ≤ 300) : fz_C l g yX4_keeps cX4_keeps 5 none 0 0 [.ref (o 0), .ref (o 2), .int 48, .int 1] (MW g o m) (MW g o ((m.farS (kbF m m.far 48)).at_S (m.at_ + 48))) none := fz_C.fr (c_X4_keepsB48 l g o m (o 2) m.far ha) [0, 14, 2] [1, 3, 4, 5, 6, 7, 8, 9, 10, 11, 12, 13] [12, 0, 14, 1, 2, 3, 4, 5, 6, 7, 8, 9, 10, 11, 13] rfl rfl rfl rfl (by decide) rfl rfl
set_option maxRecDepth 100000 in
theorem ck_sinceF (l : Launch) (g : GG) (o : Nat → Nat) (m : MV) (ha : m.at_ + 48 ≤ 300) : fz_C l g yX4_keeps cX4_keeps 5 none 0 0 [.ref (o 0), .ref (o 3), .int 48, .int 0] (MW g o m) (MW g o (kpV m m.since 48)) none := fz_C.fr (c_X4_keepsF48 l g o m (o 3) m.since ha) [0, 14, 3] [1, 2, 4, 5, 6, 7, 8, 9, 10, 11, 12, 13] [12, 0, 1, 14, 2, 3, 4, 5, 6, 7, 8, 9, 10, 11, 13] rfl rfl rfl rfl (by decide) rfl rfl
set_option maxRecDepth 100000 in
theorem ck_sinceB (l : Launch) (g : GG) (o : Nat → Nat) (m : MV) (ha : m.at_ + 48 ≤ 300) : fz_C l g yX4_keeps cX4_keeps 5 none 0 0 [.ref (o 0), .ref (o 3), .int 48, .int 1] (MW g o m) (MW g o ((m.sinceS (kbF m m.since 48)).at_S (m.at_ + 48))) none := fz_C.fr (c_X4_keepsB48 l g o m (o 3) m.since ha) [0, 14, 3] [1, 2, 4, 5, 6, 7, 8, 9, 10, 11, 12, 13] [12, 0, 1, 14, 2, 3, 4, 5, 6, 7, 8, 9, 10, 11, 13] rfl rfl rfl rfl (by decide) rfl rfl
set_option maxRecDepth 100000 in
theorem ck_chF (l : Launch) (g : GG) (o : Nat → Nat) (m : MV) (ha : m.at_ + 48 ≤ 300) : fz_C l g yX4_keeps cX4_keeps 5 none 0 0 [.ref (o 0), .ref (o 4), .int 48, .int 0] (MW g o m) (MW g o (kpV m m.ch 48)) none := fz_C.fr (c_X4_keepsF48 l g o m (o 4) m.ch ha) [0, 14, 4] [1, 2, 3, 5, 6, 7, 8, 9, 10, 11, 12, 13] [12, 0, 1, 2, 14, 3, 4, 5, 6, 7, 8, 9, 10, 11, 13] rfl rfl rfl rfl (by decide) rfl rfl
set_option maxRecDepth 100000 in
theorem ck_chB (l : Launch) (g : GG) (o : Nat → Nat) (m : MV) (ha : m.at_ + 48 ≤ 300) : fz_C l g yX4_keeps cX4_keeps 5 none 0 0 [.ref (o 0), .ref (o 4), .int 48, .int 1] (MW g o m) (MW g o ((m.chS (kbF m m.ch 48)).at_S (m.at_ + 48))) none := fz_C.fr (c_X4_keepsB48 l g o m (o 4) m.ch ha) [0, 14, 4] [1, 2, 3, 5, 6, 7, 8, 9, 10, 11, 12, 13] [12, 0, 1, 2, 14, 3, 4, 5, 6, 7, 8, 9, 10, 11, 13] rfl rfl rfl rfl (by decide) rfl rfl
set_option maxRecDepth 100000 in
theorem ck_mFF (l : Launch) (g : GG) (o : Nat → Nat) (m : MV) (ha : m.at_ + 4 ≤ 300) : fz_C l g yX4_keeps cX4_keeps 5 none 0 0 [.ref (o 0), .ref (o 5), .int 4, .int 0] (MW g o m) (MW g o (kpV m m.mF 4)) none := fz_C.fr (c_X4_keepsF4 l g o m (o 5) m.mF ha) [0, 14, 5] [1, 2, 3, 4, 6, 7, 8, 9, 10, 11, 12, 13] [12, 0, 1, 2, 3, 14, 4, 5, 6, 7, 8, 9, 10, 11, 13] rfl rfl rfl rfl (by decide) rfl rfl
set_option maxRecDepth 100000 in
theorem ck_mFB (l : Launch) (g : GG) (o : Nat → Nat) (m : MV) (ha : m.at_ + 4 ≤ 300) : fz_C l g yX4_keeps cX4_keeps 5 none 0 0 [.ref (o 0), .ref (o 5), .int 4, .int 1] (MW g o m) (MW g o ((m.mFS (kbF m m.mF 4)).at_S (m.at_ + 4))) none := fz_C.fr (c_X4_keepsB4 l g o m (o 5) m.mF ha) [0, 14, 5] [1, 2, 3, 4, 6, 7, 8, 9, 10, 11, 12, 13] [12, 0, 1, 2, 3, 14, 4, 5, 6, 7, 8, 9, 10, 11, 13] rfl rfl rfl rfl (by decide) rfl rfl
set_option maxRecDepth 100000 in
theorem ck_mTF (l : Launch) (g : GG) (o : Nat → Nat) (m : MV) (ha : m.at_ + 4 ≤ 300) : fz_C l g yX4_keeps cX4_keeps 5 none 0 0 [.ref (o 0), .ref (o 6), .int 4, .int 0] (MW g o m) (MW g o (kpV m m.mT 4)) none := fz_C.fr (c_X4_keepsF4 l g o m (o 6) m.mT ha) [0, 14, 6] [1, 2, 3, 4, 5, 7, 8, 9, 10, 11, 12, 13] [12, 0, 1, 2, 3, 4, 14, 5, 6, 7, 8, 9, 10, 11, 13] rfl rfl rfl rfl (by decide) rfl rfl
set_option maxRecDepth 100000 in
theorem ck_mTB (l : Launch) (g : GG) (o : Nat → Nat) (m : MV) (ha : m.at_ + 4 ≤ 300) : fz_C l g yX4_keeps cX4_keeps 5 none 0 0 [.ref (o 0), .ref (o 6), .int 4, .int 1] (MW g o m) (MW g o ((m.mTS (kbF m m.mT 4)).at_S (m.at_ + 4))) none := fz_C.fr (c_X4_keepsB4 l g o m (o 6) m.mT ha) [0, 14, 6] [1, 2, 3, 4, 5, 7, 8, 9, 10, 11, 12, 13] [12, 0, 1, 2, 3, 4, 14, 5, 6, 7, 8, 9, 10, 11, 13] rfl rfl rfl rfl (by decide) rfl rfl
set_option maxRecDepth 100000 in
theorem ck_mWF (l : Launch) (g : GG) (o : Nat → Nat) (m : MV) (ha : m.at_ + 4 ≤ 300) : fz_C l g yX4_keeps cX4_keeps 5 none 0 0 [.ref (o 0), .ref (o 7), .int 4, .int 0] (MW g o m) (MW g o (kpV m m.mW 4)) none := fz_C.fr (c_X4_keepsF4 l g o m (o 7) m.mW ha) [0, 14, 7] [1, 2, 3, 4, 5, 6, 8, 9, 10, 11, 12, 13] [12, 0, 1, 2, 3, 4, 5, 14, 6, 7, 8, 9, 10, 11, 13] rfl rfl rfl rfl (by decide) rfl rfl
set_option maxRecDepth 100000 in
theorem ck_mWB (l : Launch) (g : GG) (o : Nat → Nat) (m : MV) (ha : m.at_ + 4 ≤ 300) : fz_C l g yX4_keeps cX4_keeps 5 none 0 0 [.ref (o 0), .ref (o 7), .int 4, .int 1] (MW g o m) (MW g o ((m.mWS (kbF m m.mW 4)).at_S (m.at_ + 4))) none := fz_C.fr (c_X4_keepsB4 l g o m (o 7) m.mW ha) [0, 14, 7] [1, 2, 3, 4, 5, 6, 8, 9, 10, 11, 12, 13] [12, 0, 1, 2, 3, 4, 5, 14, 6, 7, 8, 9, 10, 11, 13] rfl rfl rfl rfl (by decide) rfl rfl
set_option maxRecDepth 100000 in
theorem ck_mHF (l : Launch) (g : GG) (o : Nat → Nat) (m : MV) (ha : m.at_ + 4 ≤ 300) : fz_C l g yX4_keeps cX4_keeps 5 none 0 0 [.ref (o 0), .ref (o 8), .int 4, .int 0] (MW g o m) (MW g o (kpV m m.mH 4)) none := fz_C.fr (c_X4_keepsF4 l g o m (o 8) m.mH ha) [0, 14, 8] [1, 2, 3, 4, 5, 6, 7, 9, 10, 11, 12, 13] [12, 0, 1, 2, 3, 4, 5, 6, 14, 7, 8, 9, 10, 11, 13] rfl rfl rfl rfl (by decide) rfl rfl
set_option maxRecDepth 100000 in
theorem ck_mHB (l : Launch) (g : GG) (o : Nat → Nat) (m : MV) (ha : m.at_ + 4 ≤ 300) : fz_C l g yX4_keeps cX4_keeps 5 none 0 0 [.ref (o 0), .ref (o 8), .int 4, .int 1] (MW g o m) (MW g o ((m.mHS (kbF m m.mH 4)).at_S (m.at_ + 4))) none := fz_C.fr (c_X4_keepsB4 l g o m (o 8) m.mH ha) [0, 14, 8] [1, 2, 3, 4, 5, 6, 7, 9, 10, 11, 12, 13] [12, 0, 1, 2, 3, 4, 5, 6, 14, 7, 8, 9, 10, 11, 13] rfl rfl rfl rfl (by decide) rfl rfl
set_option maxRecDepth 100000 in
theorem ck_knownF (l : Launch) (g : GG) (o : Nat → Nat) (m : MV) (ha : m.at_ + 9 ≤ 300) : fz_C l g yX4_keeps cX4_keeps 5 none 0 0 [.ref (o 0), .ref (o 9), .int 9, .int 0] (MW g o m) (MW g o (kpV m m.known 9)) none := fz_C.fr (c_X4_keepsF9 l g o m (o 9) m.known ha) [0, 14, 9] [1, 2, 3, 4, 5, 6, 7, 8, 10, 11, 12, 13] [12, 0, 1, 2, 3, 4, 5, 6, 7, 14, 8, 9, 10, 11, 13] rfl rfl rfl rfl (by decide) rfl rfl
set_option maxRecDepth 100000 in
theorem ck_knownB (l : Launch) (g : GG) (o : Nat → Nat) (m : MV) (ha : m.at_ + 9 ≤ 300) : fz_C l g yX4_keeps cX4_keeps 5 none 0 0 [.ref (o 0), .ref (o 9), .int 9, .int 1] (MW g o m) (MW g o ((m.knownS (kbF m m.known 9)).at_S (m.at_ + 9))) none := fz_C.fr (c_X4_keepsB9 l g o m (o 9) m.known ha) [0, 14, 9] [1, 2, 3, 4, 5, 6, 7, 8, 10, 11, 12, 13] [12, 0, 1, 2, 3, 4, 5, 6, 7, 14, 8, 9, 10, 11, 13] rfl rfl rfl rfl (by decide) rfl rfl
set_option maxRecDepth 100000 in
theorem ck_sentF (l : Launch) (g : GG) (o : Nat → Nat) (m : MV) (ha : m.at_ + 4 ≤ 300) : fz_C l g yX4_keeps cX4_keeps 5 none 0 0 [.ref (o 0), .ref (o 10), .int 4, .int 0] (MW g o m) (MW g o (kpV m m.sent 4)) none := fz_C.fr (c_X4_keepsF4 l g o m (o 10) m.sent ha) [0, 14, 10] [1, 2, 3, 4, 5, 6, 7, 8, 9, 11, 12, 13] [12, 0, 1, 2, 3, 4, 5, 6, 7, 8, 14, 9, 10, 11, 13] rfl rfl rfl rfl (by decide) rfl rfl
set_option maxRecDepth 100000 in
theorem ck_sentB (l : Launch) (g : GG) (o : Nat → Nat) (m : MV) (ha : m.at_ + 4 ≤ 300) : fz_C l g yX4_keeps cX4_keeps 5 none 0 0 [.ref (o 0), .ref (o 10), .int 4, .int 1] (MW g o m) (MW g o ((m.sentS (kbF m m.sent 4)).at_S (m.at_ + 4))) none := fz_C.fr (c_X4_keepsB4 l g o m (o 10) m.sent ha) [0, 14, 10] [1, 2, 3, 4, 5, 6, 7, 8, 9, 11, 12, 13] [12, 0, 1, 2, 3, 4, 5, 6, 7, 8, 14, 9, 10, 11, 13] rfl rfl rfl rfl (by decide) rfl rfl
