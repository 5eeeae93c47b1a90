set_option maxHeartbeats 4000000 in
set_option maxRecDepth 100000 in
theorem c_X4_meets (l : Launch) (g : GG) (o : Nat → Nat) (m0 : MV) (x : Int32) (hp : m0.pics ≤ 8) : fz_C l g yX4_meets cX4_meets 4 none 0 0 [.ref (o 0), .int x] (MW g o m0) (MW g o (meV m0 x)) none := by
  refine fz_C.of (by decide) (Nat.le_of_ble_eq_true rfl) ?_
  intro p e s m args below meth c A ls X hW hl
  have hx := X.1
  have hb := X.2.1
  have hl : lv_has ls 4 [(0, .ref (o 0)), (1, .int x)] := hl
  have X : fz_X p s m meth c RX4 cX4_meets 4 none g A := X
  have hW : fz_W g A s (MW g o m0) s.heap [] := hW
  have join26 : ∀ (y : Nat), meG m0 x = y → y ≤ m0.pics → ∀ (H : Heap) (locs : List Loc) (ls : Array Slot), fz_W g A s (MW g o m0) H locs → lv_has ls 4 [(0, .ref (o 0)), (1, .int x), (2, .int (nI y))] → W p l e (fz_R 0 0 0 0) s m args below meth c H locs 0 0 (MQ below (fz_Q g (MW g o (meV m0 x)) none A) args s 0 0 A) (F0 m 26 ls []) := by
    intro y hg hy H locs ls hW hl
    have join48 : ∀ (n : Nat), n = meA m0 x → ∀ (H : Heap) (locs : List Loc) (ls : Array Slot), fz_W g A s (MW g o (m0.picsS n)) H locs → lv_has ls 4 [(0, .ref (o 0)), (1, .int x), (2, .int (nI y))] → W p l e (fz_R 0 0 0 0) s m args below meth c H locs 0 0 (MQ below (fz_Q g (MW g o (meV m0 x)) none A) args s 0 0 A) (F0 m 48 ls []) := by
      intro n hn H locs ls hW hl
      have hn9 : n ≤ 9 := by
        rw [hn]
        unfold meA
        split <;> omega
      refine lv_iload_n hx hb dX4_meets_48 rfl (lv_at hl 2 rfl) ?_
      refine lv_istore_n (lv' := [(3, .int (nI y)), (0, .ref (o 0)), (1, .int x), (2, .int (nI y))]) hx hb dX4_meets_49 rfl hl (by decide) rfl (fun ls hl => ?_)
      have loop50 : ∀ (k : Nat) (i : Nat), i ≤ y → i < k → ∀ (H : Heap) (locs : List Loc) (ls : Array Slot), fz_W g A s (MW g o (MV.mk9 m0.thr m0.time m0.look m0.near m0.far m0.since m0.ch m0.moves m0.mF m0.mT m0.mW m0.mH (n) (shF m0.known y i) m0.sent m0.used m0.block m0.done m0.worth m0.kept m0.at_)) H locs → lv_has ls 4 [(0, .ref (o 0)), (1, .int x), (3, .int (nI i))] → W p l e (fz_R 0 0 0 0) s m args below meth c H locs 0 0 (MQ below (fz_Q g (MW g o (meV m0 x)) none A) args s 0 0 A) (F0 m 50 ls []) := by
        intro k
        induction k with
        | zero =>
          intro i hi hk
          omega
        | succ k ih50 =>
          intro i hi hk H locs ls hW hl
          refine lv_iload_n hx hb dX4_meets_50 rfl (lv_at hl 2 rfl) ?_
          refine lv_if_le (tgt := 74) hx hb dX4_meets_51 (by decide) (fun c51 => ?_) (fun c51 => ?_)
          · skip
            have h51 : i = 0 := by
              have := (nI_leI (a := i) (b := 0) (by omega) (by omega)).mp c51
              omega
            subst h51
            have hl : lv_has ls 4 [(0, .ref (o 0)), (1, .int x), (3, .int (nI 0))] := hl
            refine lv_aload_n hx hb dX4_meets_74 rfl (lv_at hl 0 rfl) ?_
            refine gf_X4_34 X hW 0 rfl rfl dX4_meets_75 ?_
            refine lv_iconst (v := 0) hx hb dX4_meets_78 (by decide) ?_
            refine lv_iload_n hx hb dX4_meets_79 rfl (lv_at hl 1 rfl) ?_
            refine fz_is X hW 9 (0) rfl rfl (by omega) (by decide) dX4_meets_80 (fun H locs hW => ?_)
            refine lv_aload_n hx hb dX4_meets_81 rfl (lv_at hl 0 rfl) ?_
            refine lv_aload_n hx hb dX4_meets_82 rfl (lv_at hl 0 rfl) ?_
            refine gf_X4_94 X hW 0 rfl rfl dX4_meets_83 ?_
            refine lv_bipush (v := 8) hx hb dX4_meets_86 (by decide) ?_
            refine lv_icmp_le (tgt := 96) hx hb dX4_meets_88 (by decide) (fun c88 => ?_) (fun c88 => ?_)
            · skip
              have h88 : n ≤ 8 := (nI_leI (a := n) (b := 8) (by omega) (by omega)).mp c88
              have hC : meC m0 x = n := by unfold meC; rw [← hn, if_neg (by omega)]
              refine lv_aload_n hx hb dX4_meets_96 rfl (lv_at hl 0 rfl) ?_
              refine gf_X4_94 X hW 0 rfl rfl dX4_meets_97 ?_
              refine pf_X4_94 X hW 0 rfl (Nat.le_of_ble_eq_true rfl) dX4_meets_100 (fun H locs hW => ?_)
              exact fz_rv X (fz_cast (by unfold meV; rw [hC, hg]; rfl) hW) dX4_meets_103
            · skip
              have h88 : ¬ n ≤ 8 := fun z => c88 ((nI_leI (a := n) (b := 8) (by omega) (by omega)).mpr z)
              have hC : meC m0 x = 8 := by unfold meC; rw [← hn, if_pos (by omega)]
              refine lv_bipush (v := 8) hx hb dX4_meets_91 (by decide) ?_
              refine lv_goto (tgt := 100) hx hb dX4_meets_93 (by decide) ?_
              refine pf_X4_94 X hW 0 rfl (Nat.le_of_ble_eq_true rfl) dX4_meets_100 (fun H locs hW => ?_)
              exact fz_rv X (fz_cast (by unfold meV; rw [hC, hg]; rfl) hW) dX4_meets_103
          · skip
            obtain ⟨j, rfl⟩ : ∃ j, i = j + 1 := ⟨i - 1, by
              have h51 : ¬ i ≤ 0 := fun z => c51 ((nI_leI (a := i) (b := 0) (by omega) (by omega)).mpr z)
              omega⟩
            have hl : lv_has ls 4 [(0, .ref (o 0)), (1, .int x), (3, .int (nI (j + 1)))] := hl
            refine lv_aload_n hx hb dX4_meets_54 rfl (lv_at hl 0 rfl) ?_
            refine gf_X4_34 X hW 0 rfl rfl dX4_meets_55 ?_
            refine lv_iload_n hx hb dX4_meets_58 rfl (lv_at hl 2 rfl) ?_
            refine lv_aload_n hx hb dX4_meets_59 rfl (lv_at hl 0 rfl) ?_
            refine gf_X4_34 X hW 0 rfl rfl dX4_meets_60 ?_
            refine lv_iload_n hx hb dX4_meets_63 rfl (lv_at hl 2 rfl) ?_
            refine lv_iconst (v := 1) hx hb dX4_meets_64 (by decide) ?_
            refine lv_isub hx hb dX4_meets_65 ?_
            refine fz_il X hW 9 (j) rfl (by exact pk_sub (a := j + 1) (b := 1) (by omega)) (by omega) (by decide) dX4_meets_66 ?_
            refine fz_is X hW 9 (j + 1) rfl rfl (by omega) (by decide) dX4_meets_67 (fun H locs hW => ?_)
            refine lv_iinc (v := nI j) (lv' := [(3, .int (nI j)), (0, .ref (o 0)), (1, .int x)]) hx hb dX4_meets_68 hl (k := 2) rfl (pk_m1 j) (by decide) rfl (fun ls hl => ?_)
            refine lv_goto (tgt := 50) hx hb dX4_meets_71 (by decide) ?_
            exact ih50 j (by omega) (by omega) _ _ _ (fz_cast (congrArg (fun z => MW g o (MV.mk9 m0.thr m0.time m0.look m0.near m0.far m0.since m0.ch m0.moves m0.mF m0.mT m0.mW m0.mH (n) (z) m0.sent m0.used m0.block m0.done m0.worth m0.kept m0.at_)) (shF_s m0.known y j (by omega))) hW) (lv_sub hl [1, 2, 0] rfl)
      exact loop50 (y + 1) y (Nat.le_refl _) (Nat.lt_succ_self _) _ _ _ (fz_cast (congrArg (fun z => MW g o (MV.mk9 m0.thr m0.time m0.look m0.near m0.far m0.since m0.ch m0.moves m0.mF m0.mT m0.mW m0.mH (n) (z) m0.sent m0.used m0.block m0.done m0.worth m0.kept m0.at_)) (shF_g m0.known y).symm) hW) (lv_sub hl [1, 2, 0] rfl)
    refine lv_aload_n hx hb dX4_meets_26 rfl (lv_at hl 0 rfl) ?_
    refine lv_dup hx hb dX4_meets_27 rfl ?_
    refine gf_X4_94 X hW 0 rfl rfl dX4_meets_28 ?_
    refine lv_iload_n hx hb dX4_meets_31 rfl (lv_at hl 2 rfl) ?_
    refine lv_aload_n hx hb dX4_meets_32 rfl (lv_at hl 0 rfl) ?_
    refine gf_X4_94 X hW 0 rfl rfl dX4_meets_33 ?_
    refine lv_icmp_ne (tgt := 43) hx hb dX4_meets_36 (by decide) (fun c36 => ?_) (fun c36 => ?_)
    · skip
      have h36 : ¬ y = m0.pics := fun z => c36 (by rw [z])
      refine lv_iconst (v := 0) hx hb dX4_meets_43 (by decide) ?_
      refine lv_iadd hx hb dX4_meets_44 ?_
      refine fz_top (x' := nI m0.pics) (show nI m0.pics + nI 0 = _ from by rw [nI_add]; rfl) ?_
      refine pf_X4_94 X hW 0 rfl (Nat.le_of_ble_eq_true rfl) dX4_meets_45 (fun H locs hW => ?_)
      exact join48 m0.pics (by unfold meA; rw [hg, if_neg h36]) _ _ _ (fz_cast (rfl) hW) (lv_sub hl [0, 1, 2] rfl)
    · skip
      have h36 : y = m0.pics := (nI_eq (by omega) (by omega)).mp c36
      refine lv_iconst (v := 1) hx hb dX4_meets_39 (by decide) ?_
      refine lv_goto (tgt := 44) hx hb dX4_meets_40 (by decide) ?_
      refine lv_iadd hx hb dX4_meets_44 ?_
      refine fz_top (x' := nI (m0.pics + 1)) (nI_1 _) ?_
      refine pf_X4_94 X hW 0 rfl (Nat.le_of_ble_eq_true rfl) dX4_meets_45 (fun H locs hW => ?_)
      exact join48 (m0.pics + 1) (by unfold meA; rw [hg, if_pos h36]) _ _ _ (fz_cast (rfl) hW) (lv_sub hl [0, 1, 2] rfl)
  refine lv_iconst (v := 0) hx hb dX4_meets_0 (by decide) ?_
  refine lv_istore_n (lv' := [(2, .int 0), (0, .ref (o 0)), (1, .int x)]) hx hb dX4_meets_1 rfl hl (by decide) rfl (fun ls hl => ?_)
  have loop2 : ∀ (k : Nat) (y : Nat), y ≤ m0.pics → m0.pics < y + k → meG m0 x = mpl m0.known x y (m0.pics - y) → ∀ (H : Heap) (locs : List Loc) (ls : Array Slot), fz_W g A s (MW g o m0) H locs → lv_has ls 4 [(0, .ref (o 0)), (1, .int x), (2, .int (nI y))] → W p l e (fz_R 0 0 0 0) s m args below meth c H locs 0 0 (MQ below (fz_Q g (MW g o (meV m0 x)) none A) args s 0 0 A) (F0 m 2 ls []) := by
    intro k
    induction k with
    | zero =>
      intro y hy hk
      omega
    | succ k ih2 =>
      intro y hy1 hk he H locs ls hW hl
      refine lv_iload_n hx hb dX4_meets_2 rfl (lv_at hl 2 rfl) ?_
      refine lv_aload_n hx hb dX4_meets_3 rfl (lv_at hl 0 rfl) ?_
      refine gf_X4_94 X hW 0 rfl rfl dX4_meets_4 ?_
      refine lv_icmp_ge (tgt := 26) hx hb dX4_meets_7 (by decide) (fun c7 => ?_) (fun c7 => ?_)
      · skip
        have h7 : m0.pics ≤ y := (nI_leI (a := m0.pics) (b := y) (by omega) (by omega)).mp c7
        exact join26 y (by rw [he, show m0.pics - y = 0 by omega]; rfl) hy1 _ _ _ (fz_cast (rfl) hW) (lv_sub hl [0, 1, 2] rfl)
      · skip
        have h7 : y < m0.pics := Nat.not_le.mp (fun z => c7 ((nI_leI (a := m0.pics) (b := y) (by omega) (by omega)).mpr z))
        refine lv_aload_n hx hb dX4_meets_10 rfl (lv_at hl 0 rfl) ?_
        refine gf_X4_34 X hW 0 rfl rfl dX4_meets_11 ?_
        refine lv_iload_n hx hb dX4_meets_14 rfl (lv_at hl 2 rfl) ?_
        refine fz_il X hW 9 (y) rfl rfl (by omega) (by decide) dX4_meets_15 ?_
        refine lv_iload_n hx hb dX4_meets_16 rfl (lv_at hl 1 rfl) ?_
        refine lv_icmp_eq (tgt := 26) hx hb dX4_meets_17 (by decide) (fun c17 => ?_) (fun c17 => ?_)
        · skip
          exact join26 y (by rw [he, show m0.pics - y = (m0.pics - (y + 1)) + 1 by omega]; exact if_pos c17) hy1 _ _ _ (fz_cast (rfl) hW) (lv_sub hl [0, 1, 2] rfl)
        · skip
          refine lv_iinc (v := nI (y + 1)) (lv' := [(2, .int (nI (y + 1))), (0, .ref (o 0)), (1, .int x)]) hx hb dX4_meets_20 hl (k := 2) rfl (nI_1 _) (by decide) rfl (fun ls hl => ?_)
          refine lv_goto (tgt := 2) hx hb dX4_meets_23 (by decide) ?_
          exact ih2 (y + 1) (by omega) (by omega) (by rw [he, show m0.pics - y = (m0.pics - (y + 1)) + 1 by omega]; exact if_neg c17) _ _ _ (fz_cast (rfl) hW) (lv_sub hl [1, 2, 0] rfl)
  exact loop2 (m0.pics + 1) 0 (by omega) (by omega) rfl _ _ _ (fz_cast (rfl) hW) (lv_sub hl [1, 2, 0] rfl)
