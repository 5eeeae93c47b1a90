set_option maxHeartbeats 4000000 in
set_option maxRecDepth 100000 in
theorem c_L_shift (l : Launch) (g : GG) (q r : Nat) (scr w : Nat → Int32) (b : Nat) (mo : Nat → Nat) (hb6 : b + 6 ≤ 30) (hw : ∀ i, i < 6 → w (b + i) = nI (mo i)) (hm : MOK mo) (h1 : 1 ≤ mo 2) : fz_C l g yL_shift cL_shift 8 none 0 0 [.ref q, .ref r, .int (nI b)] (HW g q r scr w) (HW g q r (shN mo scr (mo 2 * mo 3)) w) none := by
  refine fz_C.of (by decide) (Nat.le_of_ble_eq_true rfl) ?_
  intro p e s m args below meth c A ls X hW hl
  have hx := X.1
  have hb := X.2.1
  have hl : lv_has ls 8 [(0, .ref q), (1, .ref r), (2, .int (nI b))] := hl
  have X : fz_X p s m meth c RL cL_shift 8 none g A := X
  have hW : fz_W g A s (HW g q r scr w) s.heap [] := hW
  have w0 : w b = nI (mo 0) := hw 0 (by decide)
  have w1 := hw 1 (by decide)
  have w2 := hw 2 (by decide)
  have w3 := hw 3 (by decide)
  have w4 := hw 4 (by decide)
  have w5 := hw 5 (by decide)
  obtain ⟨a1, a2, a3, a4⟩ := hm
  have hm : MOK mo := ⟨a1, a2, a3, a4⟩
  have h48 := blk_48 hm
  refine lv_bipush (v := 8) hx hb dL_shift_0 (by decide) ?_
  refine lv_aload_n hx hb dL_shift_2 rfl (lv_at hl 1 rfl) ?_
  refine lv_iload_n hx hb dL_shift_3 rfl (lv_at hl 2 rfl) ?_
  refine lv_iconst (v := 5) hx hb dL_shift_4 (by decide) ?_
  refine lv_iadd hx hb dL_shift_5 ?_
  refine fz_il X hW 1 (b + 5) rfl (nI_add b 5) (by omega) (by decide) dL_shift_6 ?_
  refine lv_aload_n hx hb dL_shift_7 rfl (lv_at hl 1 rfl) ?_
  refine lv_iload_n hx hb dL_shift_8 rfl (lv_at hl 2 rfl) ?_
  refine lv_iconst (v := 1) hx hb dL_shift_9 (by decide) ?_
  refine lv_iadd hx hb dL_shift_10 ?_
  refine fz_il X hW 1 (b + 1) rfl (nI_add b 1) (by omega) (by decide) dL_shift_11 ?_
  refine lv_isub hx hb dL_shift_12 ?_
  refine lv_imul hx hb dL_shift_13 ?_
  refine lv_aload_n hx hb dL_shift_14 rfl (lv_at hl 1 rfl) ?_
  refine lv_iload_n hx hb dL_shift_15 rfl (lv_at hl 2 rfl) ?_
  refine lv_iconst (v := 4) hx hb dL_shift_16 (by decide) ?_
  refine lv_iadd hx hb dL_shift_17 ?_
  refine fz_il X hW 1 (b + 4) rfl (nI_add b 4) (by omega) (by decide) dL_shift_18 ?_
  refine lv_iadd hx hb dL_shift_19 ?_
  refine lv_aload_n hx hb dL_shift_20 rfl (lv_at hl 1 rfl) ?_
  refine lv_iload_n hx hb dL_shift_21 rfl (lv_at hl 2 rfl) ?_
  refine fz_il X hW 1 (b) rfl rfl (by omega) (by decide) dL_shift_22 ?_
  refine lv_isub hx hb dL_shift_23 ?_
  refine fz_top (x' := nI (dstN mo) - nI (srcN mo)) (by rw [w5, w1, w4, w0]; exact sh_by _ _ _ _) ?_
  refine lv_istore_n (lv' := [(3, .int (nI (dstN mo) - nI (srcN mo))), (0, .ref q), (1, .ref r), (2, .int (nI b))]) hx hb dL_shift_24 rfl hl (by decide) rfl (fun ls hl => ?_)
  refine lv_aload_n hx hb dL_shift_25 rfl (lv_at hl 2 rfl) ?_
  refine lv_iload_n hx hb dL_shift_26 rfl (lv_at hl 3 rfl) ?_
  refine lv_iconst (v := 2) hx hb dL_shift_27 (by decide) ?_
  refine lv_iadd hx hb dL_shift_28 ?_
  refine fz_il X hW 1 (b + 2) rfl (nI_add b 2) (by omega) (by decide) dL_shift_29 ?_
  refine lv_aload_n hx hb dL_shift_30 rfl (lv_at hl 2 rfl) ?_
  refine lv_iload_n hx hb dL_shift_31 rfl (lv_at hl 3 rfl) ?_
  refine lv_iconst (v := 3) hx hb dL_shift_32 (by decide) ?_
  refine lv_iadd hx hb dL_shift_33 ?_
  refine fz_il X hW 1 (b + 3) rfl (nI_add b 3) (by omega) (by decide) dL_shift_34 ?_
  refine lv_imul hx hb dL_shift_35 ?_
  refine fz_top (x' := nI (mo 2 * mo 3)) (by rw [w2, w3]; exact pk_mul _ _) ?_
  refine lv_istore (lv' := [(4, .int (nI (mo 2 * mo 3))), (3, .int (nI (dstN mo) - nI (srcN mo))), (0, .ref q), (1, .ref r), (2, .int (nI b))]) hx hb dL_shift_36 hl (by decide) rfl (fun ls hl => ?_)
  refine lv_iconst (v := 0) hx hb dL_shift_38 (by decide) ?_
  refine lv_istore (lv' := [(5, .int 0), (4, .int (nI (mo 2 * mo 3))), (3, .int (nI (dstN mo) - nI (srcN mo))), (0, .ref q), (1, .ref r), (2, .int (nI b))]) hx hb dL_shift_39 hl (by decide) rfl (fun ls hl => ?_)
  have loop41 : ∀ (k : Nat) (i : Nat), i ≤ mo 2 * mo 3 → mo 2 * mo 3 < i + k → ∀ (H : Heap) (locs : List Loc) (ls : Array Slot), fz_W g A s (HW g q r (shN mo scr i) w) H locs → lv_has ls 8 [(0, .ref q), (1, .ref r), (2, .int (nI b)), (3, .int (nI (dstN mo) - nI (srcN mo))), (4, .int (nI (mo 2 * mo 3))), (5, .int (nI i))] → W p l e (fz_R 0 0 0 0) s m args below meth c H locs 0 0 (MQ below (fz_Q g (HW g q r (shN mo scr (mo 2 * mo 3)) w) none A) args s 0 0 A) (F0 m 41 ls []) := by
    intro k
    induction k with
    | zero =>
      intro i hi hk
      omega
    | succ k ih41 =>
      intro i hi hki H locs ls hW hl
      refine lv_iload hx hb dL_shift_41 (lv_at hl 5 rfl) ?_
      refine lv_iload hx hb dL_shift_43 (lv_at hl 4 rfl) ?_
      refine lv_icmp_ge (tgt := 114) hx hb dL_shift_45 (by decide) (fun c45 => ?_) (fun c45 => ?_)
      · skip
        have h45 : mo 2 * mo 3 ≤ i := (nI_leI (a := mo 2 * mo 3) (b := i) (by omega) (by omega)).mp c45
        have e45 : i = mo 2 * mo 3 := by omega
        exact fz_rv X (fz_cast (by rw [e45]) hW) dL_shift_114
      · skip
        have h45 : i < mo 2 * mo 3 := Nat.not_le.mp (fun z => c45 ((nI_leI (a := mo 2 * mo 3) (b := i) (by omega) (by omega)).mpr z))
        refine lv_iload_n hx hb dL_shift_48 rfl (lv_at hl 3 rfl) ?_
        have join64 : ∀ (z : Nat), z = shA9 mo i → z < mo 2 * mo 3 → ∀ (ls : Array Slot), lv_has ls 8 [(0, .ref q), (1, .ref r), (2, .int (nI b)), (3, .int (nI (dstN mo) - nI (srcN mo))), (4, .int (nI (mo 2 * mo 3))), (5, .int (nI i))] → W p l e (fz_R 0 0 0 0) s m args below meth c H locs 0 0 (MQ below (fz_Q g (HW g q r (shN mo scr (mo 2 * mo 3)) w) none A) args s 0 0 A) (F0 m 64 ls [.int (nI z)]) := by
          intro z hz hz2 ls hl
          refine lv_istore (lv' := [(6, .int (nI z)), (0, .ref q), (1, .ref r), (2, .int (nI b)), (3, .int (nI (dstN mo) - nI (srcN mo))), (4, .int (nI (mo 2 * mo 3))), (5, .int (nI i))]) hx hb dL_shift_64 hl (by decide) rfl (fun ls hl => ?_)
          refine lv_bipush (v := 8) hx hb dL_shift_66 (by decide) ?_
          refine lv_aload_n hx hb dL_shift_68 rfl (lv_at hl 2 rfl) ?_
          refine lv_iload_n hx hb dL_shift_69 rfl (lv_at hl 3 rfl) ?_
          refine lv_iconst (v := 1) hx hb dL_shift_70 (by decide) ?_
          refine lv_iadd hx hb dL_shift_71 ?_
          refine fz_il X hW 1 (b + 1) rfl (nI_add b 1) (by omega) (by decide) dL_shift_72 ?_
          refine lv_iload hx hb dL_shift_73 (lv_at hl 0 rfl) ?_
          refine lv_aload_n hx hb dL_shift_75 rfl (lv_at hl 2 rfl) ?_
          refine lv_iload_n hx hb dL_shift_76 rfl (lv_at hl 3 rfl) ?_
          refine lv_iconst (v := 2) hx hb dL_shift_77 (by decide) ?_
          refine lv_iadd hx hb dL_shift_78 ?_
          refine fz_il X hW 1 (b + 2) rfl (nI_add b 2) (by omega) (by decide) dL_shift_79 ?_
          refine lv_idiv hx hb dL_shift_80 (by rw [w2]; exact nI_ne0 (by omega) (by omega)) ?_
          refine lv_iadd hx hb dL_shift_81 ?_
          refine lv_imul hx hb dL_shift_82 ?_
          refine lv_aload_n hx hb dL_shift_83 rfl (lv_at hl 2 rfl) ?_
          refine lv_iload_n hx hb dL_shift_84 rfl (lv_at hl 3 rfl) ?_
          refine fz_il X hW 1 (b) rfl rfl (by omega) (by decide) dL_shift_85 ?_
          refine lv_iadd hx hb dL_shift_86 ?_
          refine lv_iload hx hb dL_shift_87 (lv_at hl 0 rfl) ?_
          refine lv_aload_n hx hb dL_shift_89 rfl (lv_at hl 2 rfl) ?_
          refine lv_iload_n hx hb dL_shift_90 rfl (lv_at hl 3 rfl) ?_
          refine lv_iconst (v := 2) hx hb dL_shift_91 (by decide) ?_
          refine lv_iadd hx hb dL_shift_92 ?_
          refine fz_il X hW 1 (b + 2) rfl (nI_add b 2) (by omega) (by decide) dL_shift_93 ?_
          refine lv_irem hx hb dL_shift_94 (by rw [w2]; exact nI_ne0 (by omega) (by omega)) ?_
          refine lv_iadd hx hb dL_shift_95 ?_
          refine fz_top (x' := nI (sT mo z)) (by rw [w1, w2, w0]; exact sh_src h1 (by omega) (by omega)) ?_
          refine lv_istore (lv' := [(7, .int (nI (sT mo z))), (6, .int (nI z)), (0, .ref q), (1, .ref r), (2, .int (nI b)), (3, .int (nI (dstN mo) - nI (srcN mo))), (4, .int (nI (mo 2 * mo 3))), (5, .int (nI i))]) hx hb dL_shift_96 hl (by decide) rfl (fun ls hl => ?_)
          refine lv_aload_n hx hb dL_shift_98 rfl (lv_at hl 2 rfl) ?_
          refine lv_iload hx hb dL_shift_99 (lv_at hl 0 rfl) ?_
          refine lv_iload_n hx hb dL_shift_101 rfl (lv_at hl 5 rfl) ?_
          refine lv_iadd hx hb dL_shift_102 ?_
          refine lv_aload_n hx hb dL_shift_103 rfl (lv_at hl 2 rfl) ?_
          refine lv_iload hx hb dL_shift_104 (lv_at hl 0 rfl) ?_
          refine fz_il X hW 0 (sT mo z) rfl rfl (sT_lt hm h1 hz2) (by decide) dL_shift_106 ?_
          refine fz_is X hW 0 (dT mo z) rfl (sh_dst z) (dT_lt hm h1 hz2) (by decide) dL_shift_107 (fun H locs hW => ?_)
          refine lv_iinc (v := nI (i + 1)) (lv' := [(5, .int (nI (i + 1))), (7, .int (nI (sT mo z))), (6, .int (nI z)), (0, .ref q), (1, .ref r), (2, .int (nI b)), (3, .int (nI (dstN mo) - nI (srcN mo))), (4, .int (nI (mo 2 * mo 3)))]) hx hb dL_shift_108 hl (k := 7) rfl (nI_1 _) (by decide) rfl (fun ls hl => ?_)
          refine lv_goto (tgt := 41) hx hb dL_shift_111 (by decide) ?_
          exact ih41 (i + 1) (by omega) (by omega) _ _ _ (fz_cast (by subst hz; rfl) hW) (lv_sub hl [3, 4, 5, 6, 7, 0] rfl)
        refine lv_if_le (tgt := 62) hx hb dL_shift_49 (by decide) (fun c49 => ?_) (fun c49 => ?_)
        · skip
          refine lv_iload hx hb dL_shift_62 (lv_at hl 5 rfl) ?_
          exact join64 i (sh_at0 hm c49).symm h45 _ (lv_sub hl [0, 1, 2, 3, 4, 5] rfl)
        · skip
          refine lv_iload hx hb dL_shift_52 (lv_at hl 4 rfl) ?_
          refine lv_iconst (v := 1) hx hb dL_shift_54 (by decide) ?_
          refine lv_isub hx hb dL_shift_55 ?_
          refine lv_iload hx hb dL_shift_56 (lv_at hl 5 rfl) ?_
          refine lv_isub hx hb dL_shift_58 ?_
          refine fz_top (x' := nI (mo 2 * mo 3 - 1 - i)) (by rw [show (1 : Int32) = nI 1 from rfl, pk_sub (by omega), pk_sub (by omega)]) ?_
          refine lv_goto (tgt := 64) hx hb dL_shift_59 (by decide) ?_
          exact join64 (mo 2 * mo 3 - 1 - i) (sh_at1 hm c49).symm (by omega) _ (lv_sub hl [0, 1, 2, 3, 4, 5] rfl)
  exact loop41 (mo 2 * mo 3 + 1) 0 (by omega) (by omega) _ _ _ (fz_cast (rfl) hW) (lv_sub hl [3, 4, 5, 2, 1, 0] rfl)
