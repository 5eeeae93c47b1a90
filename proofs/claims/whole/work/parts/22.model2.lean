theorem fz_ix1 (fr y wd : Nat) (hy : y < 2 ^ 31) (h0 : 0 < wd) (h1 : wd < 2 ^ 31) : nI fr + 8 * (nI y / nI wd) + (nI y - nI y / nI wd * nI wd) = nI (fr + 8 * (y / wd) + y % wd) := by
  rw [pk_rem hy h0 h1, pk_div hy h0 h1]
  show nI fr + nI 8 * nI (y / wd) + nI (y % wd) = _
  rw [pk_mul, nI_add, nI_add]
theorem fz_ix2 (x y k wd : Nat) (hk : k < 2 ^ 31) (h0 : 0 < wd) (h1 : wd < 2 ^ 31) : 8 * (nI y + nI k / nI wd) + nI x + (nI k - nI k / nI wd * nI wd) = nI (8 * (y + k / wd) + x + k % wd) := by
  rw [pk_rem hk h0 h1, pk_div hk h0 h1]
  show nI 8 * (nI y + nI (k / wd)) + nI x + nI (k % wd) = _
  rw [nI_add, pk_mul, nI_add, nI_add]
theorem blk (k wd hg : Nat) (hw : 1 ≤ wd) (hk : k < wd * hg) : k / wd < hg ∧ k % wd < wd := by
  refine ⟨?_, Nat.mod_lt _ (by omega)⟩
  exact (Nat.div_lt_iff_lt_mul (by omega)).mpr (by rw [Nat.mul_comm]; exact hk)
theorem blk48 (wd hg : Nat) (h1 : wd ≤ 8) (h2 : hg ≤ 6) : wd * hg ≤ 48 := Nat.le_trans (Nat.mul_le_mul h1 h2) (by omega)
def mfM (m : MV) (x y w h : Nat) (q : Int32) : MV := mfl (m.thrS 0) x y w q (w * h)
def mfR (m : MV) (x y w h q : Int32) : Int32 × MV := if okB x y w h then (if okP q then (muF (mfM m x.toNatClampNeg y.toNatClampNeg w.toNatClampNeg h.toNatClampNeg q) 48, mfM m x.toNatClampNeg y.toNatClampNeg w.toNatClampNeg h.toNatClampNeg q) else (0, m.thrS 2)) else (0, m.thrS 1)
def mmR (m : MV) (x y w h x2 y2 : Int32) : Int32 × MV := if okB x y w h then (if okB x2 y2 w h then (if x = x2 ∧ y = y2 then (0, m.thrS 2) else (nI (mmV (m.thrS 0) (mkM x.toNatClampNeg y.toNatClampNeg w.toNatClampNeg h.toNatClampNeg x2.toNatClampNeg y2.toNatClampNeg)).moves, mmV (m.thrS 0) (mkM x.toNatClampNeg y.toNatClampNeg w.toNatClampNeg h.toNatClampNeg x2.toNatClampNeg y2.toNatClampNeg))) else (0, m.thrS 1)) else (0, m.thrS 1)
def mloR (m : MV) (x y : Int32) : Int32 × MV := if okT x y then (nI m.look, (m.thrS 0).lookS (tN x y)) else (0, m.thrS 1)
theorem mml_keep (m : MV) (x2 y2 w : Nat) : ∀ k, (mml m x2 y2 w k).moves = m.moves := by
  intro k
  induction k with
  | zero => rfl
  | succ k ih => exact ih
set_option maxHeartbeats 4000000 in
set_option maxRecDepth 100000 in
theorem c_X4_copiesN (l : Launch) (g : GG) (o : Nat → Nat) (m0 : MV) (fr wd hg : Nat) (hw : 1 ≤ wd) (hwl : wd ≤ 8) (hn : wd * hg ≤ 48) (hin : ∀ y, y < wd * hg → fr + 8 * (y / wd) + y % wd < 48) : fz_C l g yX4_copies cX4_copies 6 none 0 0 [.ref (o 0), .ref (o 1), .int (nI fr), .int (nI wd), .int (nI hg)] (MW g o m0) (MW g o (mbV m0 m0.near fr wd (wd * hg))) none := by
  refine fz_C.of (by decide) (Nat.le_of_ble_eq_true rfl) ?_
  intro p e s m args below meth c A ls X hW hl
  have hx := X.1
  have hb := X.2.1
  have hl : lv_has ls 6 [(0, .ref (o 0)), (1, .ref (o 1)), (2, .int (nI fr)), (3, .int (nI wd)), (4, .int (nI hg))] := hl
  have X : fz_X p s m meth c RX4 cX4_copies 6 none g A := X
  have hW : fz_W g A s (MW g o m0) s.heap [] := hW
  refine lv_iconst (v := 0) hx hb dX4_copies_0 (by decide) ?_
  refine lv_istore (lv' := [(5, .int 0), (0, .ref (o 0)), (1, .ref (o 1)), (2, .int (nI fr)), (3, .int (nI wd)), (4, .int (nI hg))]) hx hb dX4_copies_1 hl (by decide) rfl (fun ls hl => ?_)
  have loop3 : ∀ (k : Nat) (y : Nat), y ≤ wd * hg → wd * hg < y + k → ∀ (H : Heap) (locs : List Loc) (ls : Array Slot), fz_W g A s (MW g o (m0.blockS (fz_to (fun k => m0.near (fr + 8 * (k / wd) + k % wd)) m0.block y))) H locs → lv_has ls 6 [(0, .ref (o 0)), (1, .ref (o 1)), (2, .int (nI fr)), (3, .int (nI wd)), (4, .int (nI hg)), (5, .int (nI y))] → W p l e (fz_R 0 0 0 0) s m args below meth c H locs 0 0 (MQ below (fz_Q g (MW g o (mbV m0 m0.near fr wd (wd * hg))) none A) args s 0 0 A) (F0 m 3 ls []) := by
    intro k
    induction k with
    | zero =>
      intro y hy hk
      omega
    | succ k ih3 =>
      intro y hy hk H locs ls hW hl
      refine lv_iload hx hb dX4_copies_3 (lv_at hl 5 rfl) ?_
      refine lv_iload_n hx hb dX4_copies_5 rfl (lv_at hl 3 rfl) ?_
      refine lv_iload hx hb dX4_copies_6 (lv_at hl 4 rfl) ?_
      refine lv_imul hx hb dX4_copies_8 ?_
      refine lv_icmp_ge (tgt := 41) hx hb dX4_copies_9 (by decide) (fun c9 => ?_) (fun c9 => ?_)
      · skip
        rw [pk_mul] at c9
        have h9 : wd * hg ≤ y := (nI_leI (a := wd * hg) (b := y) (by omega) (by omega)).mp c9
        have e9 : y = wd * hg := by omega
        have hl := lv_sub hl [0, 1, 2, 3, 4] rfl
        have hl : lv_has ls 6 [(0, .ref (o 0)), (1, .ref (o 1)), (2, .int (nI fr)), (3, .int (nI wd)), (4, .int (nI hg))] := hl
        exact fz_rv X (fz_cast (by rw [e9]; rfl) hW) dX4_copies_41
      · skip
        rw [pk_mul] at c9
        have h9 : y < wd * hg := Nat.not_le.mp (fun z => c9 ((nI_leI (a := wd * hg) (b := y) (by omega) (by omega)).mpr z))
        refine lv_aload_n hx hb dX4_copies_12 rfl (lv_at hl 0 rfl) ?_
        refine gf_X4_40 X hW 0 rfl rfl dX4_copies_13 ?_
        refine lv_iload hx hb dX4_copies_16 (lv_at hl 5 rfl) ?_
        refine lv_aload_n hx hb dX4_copies_18 rfl (lv_at hl 1 rfl) ?_
        refine lv_iload_n hx hb dX4_copies_19 rfl (lv_at hl 2 rfl) ?_
        refine lv_bipush (v := 8) hx hb dX4_copies_20 (by decide) ?_
        refine lv_iload hx hb dX4_copies_22 (lv_at hl 5 rfl) ?_
        refine lv_iload_n hx hb dX4_copies_24 rfl (lv_at hl 3 rfl) ?_
        refine lv_idiv hx hb dX4_copies_25 (nI_ne _ (by omega) (by omega)) ?_
        refine lv_imul hx hb dX4_copies_26 ?_
        refine lv_iadd hx hb dX4_copies_27 ?_
        refine lv_iload hx hb dX4_copies_28 (lv_at hl 5 rfl) ?_
        refine lv_iload_n hx hb dX4_copies_30 rfl (lv_at hl 3 rfl) ?_
        refine lv_irem hx hb dX4_copies_31 (nI_ne _ (by omega) (by omega)) ?_
        refine lv_iadd hx hb dX4_copies_32 ?_
        refine fz_il X hW 1 (fr + 8 * (y / wd) + y % wd) rfl (fz_ix1 _ _ _ (by omega) (by omega) (by omega)) (hin y h9) (by decide) dX4_copies_33 ?_
        refine fz_is X hW 11 (y) rfl rfl (by omega) (by decide) dX4_copies_34 (fun H locs hW => ?_)
        refine lv_iinc (v := nI (y + 1)) (lv' := [(5, .int (nI (y + 1))), (0, .ref (o 0)), (1, .ref (o 1)), (2, .int (nI fr)), (3, .int (nI wd)), (4, .int (nI hg))]) hx hb dX4_copies_35 hl (k := 5) rfl (nI_1 _) (by decide) rfl (fun ls hl => ?_)
        refine lv_goto (tgt := 3) hx hb dX4_copies_38 (by decide) ?_
        exact ih3 (y + 1) (by omega) (by omega) _ _ _ (fz_cast (congrArg (fun z => MW g o (m0.blockS z)) (fz_to_s (fun k => m0.near (fr + 8 * (k / wd) + k % wd)) m0.block y rfl)) hW) (lv_sub hl [1, 2, 3, 4, 5, 0] rfl)
  exact loop3 (wd * hg + 1) 0 (by omega) (by omega) _ _ _ (fz_cast (congrArg (fun z => MW g o (m0.blockS z)) (fz_to_0 _ _).symm) hW) (lv_sub hl [1, 2, 3, 4, 5, 0] rfl)
set_option maxHeartbeats 4000000 in
set_option maxRecDepth 100000 in
theorem c_X4_copiesF (l : Launch) (g : GG) (o : Nat → Nat) (m0 : MV) (fr wd hg : Nat) (hw : 1 ≤ wd) (hwl : wd ≤ 8) (hn : wd * hg ≤ 48) (hin : ∀ y, y < wd * hg → fr + 8 * (y / wd) + y % wd < 48) : fz_C l g yX4_copies cX4_copies 6 none 0 0 [.ref (o 0), .ref (o 2), .int (nI fr), .int (nI wd), .int (nI hg)] (MW g o m0) (MW g o (mbV m0 m0.far fr wd (wd * hg))) none := by
  refine fz_C.of (by decide) (Nat.le_of_ble_eq_true rfl) ?_
  intro p e s m args below meth c A ls X hW hl
  have hx := X.1
  have hb := X.2.1
  have hl : lv_has ls 6 [(0, .ref (o 0)), (1, .ref (o 2)), (2, .int (nI fr)), (3, .int (nI wd)), (4, .int (nI hg))] := hl
  have X : fz_X p s m meth c RX4 cX4_copies 6 none g A := X
  have hW : fz_W g A s (MW g o m0) s.heap [] := hW
  refine lv_iconst (v := 0) hx hb dX4_copies_0 (by decide) ?_
  refine lv_istore (lv' := [(5, .int 0), (0, .ref (o 0)), (1, .ref (o 2)), (2, .int (nI fr)), (3, .int (nI wd)), (4, .int (nI hg))]) hx hb dX4_copies_1 hl (by decide) rfl (fun ls hl => ?_)
  have loop3 : ∀ (k : Nat) (y : Nat), y ≤ wd * hg → wd * hg < y + k → ∀ (H : Heap) (locs : List Loc) (ls : Array Slot), fz_W g A s (MW g o (m0.blockS (fz_to (fun k => m0.far (fr + 8 * (k / wd) + k % wd)) m0.block y))) H locs → lv_has ls 6 [(0, .ref (o 0)), (1, .ref (o 2)), (2, .int (nI fr)), (3, .int (nI wd)), (4, .int (nI hg)), (5, .int (nI y))] → W p l e (fz_R 0 0 0 0) s m args below meth c H locs 0 0 (MQ below (fz_Q g (MW g o (mbV m0 m0.far fr wd (wd * hg))) none A) args s 0 0 A) (F0 m 3 ls []) := by
    intro k
    induction k with
    | zero =>
      intro y hy hk
      omega
    | succ k ih3 =>
      intro y hy hk H locs ls hW hl
      refine lv_iload hx hb dX4_copies_3 (lv_at hl 5 rfl) ?_
      refine lv_iload_n hx hb dX4_copies_5 rfl (lv_at hl 3 rfl) ?_
      refine lv_iload hx hb dX4_copies_6 (lv_at hl 4 rfl) ?_
      refine lv_imul hx hb dX4_copies_8 ?_
      refine lv_icmp_ge (tgt := 41) hx hb dX4_copies_9 (by decide) (fun c9 => ?_) (fun c9 => ?_)
      · skip
        rw [pk_mul] at c9
        have h9 : wd * hg ≤ y := (nI_leI (a := wd * hg) (b := y) (by omega) (by omega)).mp c9
        have e9 : y = wd * hg := by omega
        have hl := lv_sub hl [0, 1, 2, 3, 4] rfl
        have hl : lv_has ls 6 [(0, .ref (o 0)), (1, .ref (o 2)), (2, .int (nI fr)), (3, .int (nI wd)), (4, .int (nI hg))] := hl
        exact fz_rv X (fz_cast (by rw [e9]; rfl) hW) dX4_copies_41
      · skip
        rw [pk_mul] at c9
        have h9 : y < wd * hg := Nat.not_le.mp (fun z => c9 ((nI_leI (a := wd * hg) (b := y) (by omega) (by omega)).mpr z))
        refine lv_aload_n hx hb dX4_copies_12 rfl (lv_at hl 0 rfl) ?_
        refine gf_X4_40 X hW 0 rfl rfl dX4_copies_13 ?_
        refine lv_iload hx hb dX4_copies_16 (lv_at hl 5 rfl) ?_
        refine lv_aload_n hx hb dX4_copies_18 rfl (lv_at hl 1 rfl) ?_
        refine lv_iload_n hx hb dX4_copies_19 rfl (lv_at hl 2 rfl) ?_
        refine lv_bipush (v := 8) hx hb dX4_copies_20 (by decide) ?_
        refine lv_iload hx hb dX4_copies_22 (lv_at hl 5 rfl) ?_
        refine lv_iload_n hx hb dX4_copies_24 rfl (lv_at hl 3 rfl) ?_
        refine lv_idiv hx hb dX4_copies_25 (nI_ne _ (by omega) (by omega)) ?_
        refine lv_imul hx hb dX4_copies_26 ?_
        refine lv_iadd hx hb dX4_copies_27 ?_
        refine lv_iload hx hb dX4_copies_28 (lv_at hl 5 rfl) ?_
        refine lv_iload_n hx hb dX4_copies_30 rfl (lv_at hl 3 rfl) ?_
        refine lv_irem hx hb dX4_copies_31 (nI_ne _ (by omega) (by omega)) ?_
        refine lv_iadd hx hb dX4_copies_32 ?_
        refine fz_il X hW 2 (fr + 8 * (y / wd) + y % wd) rfl (fz_ix1 _ _ _ (by omega) (by omega) (by omega)) (hin y h9) (by decide) dX4_copies_33 ?_
        refine fz_is X hW 11 (y) rfl rfl (by omega) (by decide) dX4_copies_34 (fun H locs hW => ?_)
        refine lv_iinc (v := nI (y + 1)) (lv' := [(5, .int (nI (y + 1))), (0, .ref (o 0)), (1, .ref (o 2)), (2, .int (nI fr)), (3, .int (nI wd)), (4, .int (nI hg))]) hx hb dX4_copies_35 hl (k := 5) rfl (nI_1 _) (by decide) rfl (fun ls hl => ?_)
        refine lv_goto (tgt := 3) hx hb dX4_copies_38 (by decide) ?_
        exact ih3 (y + 1) (by omega) (by omega) _ _ _ (fz_cast (congrArg (fun z => MW g o (m0.blockS z)) (fz_to_s (fun k => m0.far (fr + 8 * (k / wd) + k % wd)) m0.block y rfl)) hW) (lv_sub hl [1, 2, 3, 4, 5, 0] rfl)
  exact loop3 (wd * hg + 1) 0 (by omega) (by omega) _ _ _ (fz_cast (congrArg (fun z => MW g o (m0.blockS z)) (fz_to_0 _ _).symm) hW) (lv_sub hl [1, 2, 3, 4, 5, 0] rfl)
set_option maxHeartbeats 4000000 in
set_option maxRecDepth 100000 in
theorem c_X4_fill (l : Launch) (g : GG) (o : Nat → Nat) (m0 : MV) (x y w h q : Int32) : fz_C l g yX4_fill cX4_fill 7 (some .int) 3 66 [.ref (o 0), .int x, .int y, .int w, .int h, .int q] (MW g o m0) (MW g o (mfR m0 x y w h q).2) (some (.int (mfR m0 x y w h q).1)) := by
  refine fz_C.of (by decide) (Nat.le_of_ble_eq_true rfl) ?_
  intro p e s m args below meth c A ls X hW hl
  have hx := X.1
  have hb := X.2.1
  have hl : lv_has ls 7 [(0, .ref (o 0)), (1, .int x), (2, .int y), (3, .int w), (4, .int h), (5, .int q)] := hl
  have X : fz_X p s m meth c RX4 cX4_fill 7 (some .int) g A := X
  have hW : fz_W g A s (MW g o m0) s.heap [] := hW
  refine lv_aload_n hx hb dX4_fill_0 rfl (lv_at hl 0 rfl) ?_
  refine lv_iload_n hx hb dX4_fill_1 rfl (lv_at hl 1 rfl) ?_
  refine lv_iload_n hx hb dX4_fill_2 rfl (lv_at hl 2 rfl) ?_
  refine lv_iload_n hx hb dX4_fill_3 rfl (lv_at hl 3 rfl) ?_
  refine lv_iload hx hb dX4_fill_4 (lv_at hl 4 rfl) ?_
  refine fz_cSi X hW (c_X4_isBlock l g x y w h _) lk_X4_72 rfl ⟨Nat.le_of_ble_eq_true rfl, Nat.le_of_ble_eq_true rfl⟩ hl rfl (Nat.le_of_ble_eq_true rfl) dX4_fill_6 ⟨Nat.le_refl _, Nat.le_refl _⟩ (fun H locs hW => ?_)
  refine lv_if_ne (tgt := 16) hx hb dX4_fill_9 (by decide) (fun c9 => ?_) (fun c9 => ?_)
  · skip
    have kb : okB x y w h := b01_1 c9
    refine lv_iload hx hb dX4_fill_16 (lv_at hl 5 rfl) ?_
    refine lv_iconst (v := 0) hx hb dX4_fill_18 (by decide) ?_
    refine lv_sipush (v := 255) hx hb dX4_fill_19 (by decide) ?_
    refine fz_cSi X hW (c_X4_isIn l g q 0 255 _) lk_X4_57 rfl ⟨Nat.le_of_ble_eq_true rfl, Nat.le_of_ble_eq_true rfl⟩ hl rfl (Nat.le_of_ble_eq_true rfl) dX4_fill_22 ⟨Nat.le_refl _, Nat.le_refl _⟩ (fun H locs hW => ?_)
    refine lv_if_eq (tgt := 32) hx hb dX4_fill_25 (by decide) (fun c25 => ?_) (fun c25 => ?_)
    · skip
      have kq : ¬ okP q := fun z => b01_0.mp c25 (okP_in.mp z)
      refine lv_iconst (v := 2) hx hb dX4_fill_32 (by decide) ?_
      refine pf_X4_53 X hW 0 rfl (Nat.le_of_ble_eq_true rfl) dX4_fill_33 (fun H locs hW => ?_)
      refine lv_aload_n hx hb dX4_fill_36 rfl (lv_at hl 0 rfl) ?_
      refine gf_X4_53 X hW 0 rfl rfl dX4_fill_37 ?_
      refine lv_if_le (tgt := 45) hx hb dX4_fill_40 (by decide) (fun c40 => ?_) (fun c40 => ?_)
      · first | exact absurd c40 (by decide) | exact absurd (by decide) c40
      · skip
        refine lv_iconst (v := 0) hx hb dX4_fill_43 (by decide) ?_
        exact fz_ri X (fz_cast (by unfold mfR; rw [if_pos kb, if_neg kq]; rfl) hW) (by unfold mfR; rw [if_pos kb, if_neg kq]) dX4_fill_44
    · skip
      have kq : okP q := okP_in.mpr (b01_1 c25)
      refine lv_iconst (v := 0) hx hb dX4_fill_28 (by decide) ?_
      refine lv_goto (tgt := 33) hx hb dX4_fill_29 (by decide) ?_
      refine pf_X4_53 X hW 0 rfl (Nat.le_of_ble_eq_true rfl) dX4_fill_33 (fun H locs hW => ?_)
      refine lv_aload_n hx hb dX4_fill_36 rfl (lv_at hl 0 rfl) ?_
      refine gf_X4_53 X hW 0 rfl rfl dX4_fill_37 ?_
      refine lv_if_le (tgt := 45) hx hb dX4_fill_40 (by decide) (fun c40 => ?_) (fun c40 => ?_)
      · skip
        obtain ⟨i, j, wd, hg, e1, e2, e3, e4, w1, g1, b1, b2, n1, n2, n3, n4⟩ := okB_nat kb
        have h48 := blk48 wd hg (by omega) (by omega)
        have hl : lv_has ls 7 [(0, .ref (o 0)), (1, .int (nI i)), (2, .int (nI j)), (3, .int (nI wd)), (4, .int (nI hg)), (5, .int q)] := by rw [← e1, ← e2, ← e3, ← e4]; exact hl
        refine lv_iconst (v := 0) hx hb dX4_fill_45 (by decide) ?_
        refine lv_istore (lv' := [(6, .int 0), (0, .ref (o 0)), (1, .int (nI i)), (2, .int (nI j)), (3, .int (nI wd)), (4, .int (nI hg)), (5, .int q)]) hx hb dX4_fill_46 hl (by decide) rfl (fun ls hl => ?_)
        have loop48 : ∀ (k : Nat) (yy : Nat), yy ≤ wd * hg → wd * hg < yy + k → ∀ (H : Heap) (locs : List Loc) (ls : Array Slot), fz_W g A s (MW g o (mfl (m0.thrS 0) i j wd q yy)) H locs → lv_has ls 7 [(0, .ref (o 0)), (1, .int (nI i)), (2, .int (nI j)), (3, .int (nI wd)), (4, .int (nI hg)), (5, .int q), (6, .int (nI yy))] → W p l e (fz_R 3 0 0 66) s m args below meth c H locs 0 0 (MQ below (fz_Q g (MW g o (mfR m0 x y w h q).2) (some (.int (mfR m0 x y w h q).1)) A) args s 0 0 A) (F0 m 48 ls []) := by
          intro k
          induction k with
          | zero =>
            intro yy hy hk
            omega
          | succ k ih48 =>
            intro yy hy hk H locs ls hW hl
            refine lv_iload hx hb dX4_fill_48 (lv_at hl 6 rfl) ?_
            refine lv_iload_n hx hb dX4_fill_50 rfl (lv_at hl 3 rfl) ?_
            refine lv_iload hx hb dX4_fill_51 (lv_at hl 4 rfl) ?_
            refine lv_imul hx hb dX4_fill_53 ?_
            refine lv_icmp_ge (tgt := 85) hx hb dX4_fill_54 (by decide) (fun c54 => ?_) (fun c54 => ?_)
            · skip
              rw [pk_mul] at c54
              have h54 : wd * hg ≤ yy := (nI_leI (a := wd * hg) (b := yy) (by omega) (by omega)).mp c54
              have e54 : yy = wd * hg := by omega
              have hl := lv_sub hl [0, 1, 2, 3, 4, 5] rfl
              have hl : lv_has ls 7 [(0, .ref (o 0)), (1, .int (nI i)), (2, .int (nI j)), (3, .int (nI wd)), (4, .int (nI hg)), (5, .int q)] := hl
              refine lv_aload_n hx hb dX4_fill_85 rfl (lv_at hl 0 rfl) ?_
              refine fz_cVi X hW (c_X4_unlikeTiles l g o (mfl (m0.thrS 0) i j wd q yy)) lk_X4_80 (ci := 4) (q0 := 0) rfl rfl rfl rfl ⟨Nat.le_of_ble_eq_true rfl, Nat.le_of_ble_eq_true rfl⟩ hl rfl (Nat.le_of_ble_eq_true rfl) dX4_fill_86 ⟨Nat.le_refl _, Nat.le_refl _⟩ (fun H locs hW => ?_)
              exact fz_ri X (fz_cast (by unfold mfR; rw [if_pos kb, if_pos kq, n1, n2, n3, n4, e54]; rfl) hW) (by unfold mfR; rw [if_pos kb, if_pos kq, n1, n2, n3, n4, e54]; rfl) dX4_fill_89
            · skip
              rw [pk_mul] at c54
              have h54 : yy < wd * hg := Nat.not_le.mp (fun z => c54 ((nI_leI (a := wd * hg) (b := yy) (by omega) (by omega)).mpr z))
              obtain ⟨k1, k2⟩ := blk yy wd hg w1 h54
              refine lv_aload_n hx hb dX4_fill_57 rfl (lv_at hl 0 rfl) ?_
              refine lv_bipush (v := 8) hx hb dX4_fill_58 (by decide) ?_
              refine lv_iload_n hx hb dX4_fill_60 rfl (lv_at hl 2 rfl) ?_
              refine lv_iload hx hb dX4_fill_61 (lv_at hl 6 rfl) ?_
              refine lv_iload_n hx hb dX4_fill_63 rfl (lv_at hl 3 rfl) ?_
              refine lv_idiv hx hb dX4_fill_64 (nI_ne _ (by omega) (by omega)) ?_
              refine lv_iadd hx hb dX4_fill_65 ?_
              refine lv_imul hx hb dX4_fill_66 ?_
              refine lv_iload_n hx hb dX4_fill_67 rfl (lv_at hl 1 rfl) ?_
              refine lv_iadd hx hb dX4_fill_68 ?_
              refine lv_iload hx hb dX4_fill_69 (lv_at hl 6 rfl) ?_
              refine lv_iload_n hx hb dX4_fill_71 rfl (lv_at hl 3 rfl) ?_
              refine lv_irem hx hb dX4_fill_72 (nI_ne _ (by omega) (by omega)) ?_
              refine lv_iadd hx hb dX4_fill_73 ?_
              refine fz_top (x' := nI (8 * (j + yy / wd) + i + yy % wd)) (fz_ix2 _ _ _ _ (by omega) (by omega) (by omega)) ?_
              refine lv_iload hx hb dX4_fill_74 (lv_at hl 5 rfl) ?_
              refine fz_cVv X hW (c_X4_draws l g o (mfl (m0.thrS 0) i j wd q yy) (8 * (j + yy / wd) + i + yy % wd) q (by omega)) lk_X4_76 (ci := 4) (q0 := 0) rfl rfl rfl rfl ⟨Nat.le_of_ble_eq_true rfl, Nat.le_of_ble_eq_true rfl⟩ hl rfl (Nat.le_of_ble_eq_true rfl) dX4_fill_76 ⟨Nat.le_refl _, Nat.le_refl _⟩ (fun H locs hW => ?_)
              refine lv_iinc (v := nI (yy + 1)) (lv' := [(6, .int (nI (yy + 1))), (0, .ref (o 0)), (1, .int (nI i)), (2, .int (nI j)), (3, .int (nI wd)), (4, .int (nI hg)), (5, .int q)]) hx hb dX4_fill_79 hl (k := 6) rfl (nI_1 _) (by decide) rfl (fun ls hl => ?_)
              refine lv_goto (tgt := 48) hx hb dX4_fill_82 (by decide) ?_
              exact ih48 (yy + 1) (by omega) (by omega) _ _ _ (fz_cast (rfl) hW) (lv_sub hl [1, 2, 3, 4, 5, 6, 0] rfl)
        exact loop48 (wd * hg + 1) 0 (by omega) (by omega) _ _ _ (fz_cast (rfl) hW) (lv_sub hl [1, 2, 3, 4, 5, 6, 0] rfl)
      · first | exact absurd c40 (by decide) | exact absurd (by decide) c40
  · skip
    have kb : ¬ okB x y w h := b01_0.mp c9
    refine lv_iconst (v := 1) hx hb dX4_fill_12 (by decide) ?_
    refine lv_goto (tgt := 33) hx hb dX4_fill_13 (by decide) ?_
    refine pf_X4_53 X hW 0 rfl (Nat.le_of_ble_eq_true rfl) dX4_fill_33 (fun H locs hW => ?_)
    refine lv_aload_n hx hb dX4_fill_36 rfl (lv_at hl 0 rfl) ?_
    refine gf_X4_53 X hW 0 rfl rfl dX4_fill_37 ?_
    refine lv_if_le (tgt := 45) hx hb dX4_fill_40 (by decide) (fun c40 => ?_) (fun c40 => ?_)
    · first | exact absurd c40 (by decide) | exact absurd (by decide) c40
    · skip
      refine lv_iconst (v := 0) hx hb dX4_fill_43 (by decide) ?_
      exact fz_ri X (fz_cast (by unfold mfR; rw [if_neg kb]; rfl) hW) (by unfold mfR; rw [if_neg kb]) dX4_fill_44
