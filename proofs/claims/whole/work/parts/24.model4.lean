set_option maxHeartbeats 4000000 in
set_option maxRecDepth 100000 in
theorem c_X4_move (l : Launch) (g : GG) (o : Nat → Nat) (m0 : MV) (x y w h x2 y2 : Int32) (hmv : m0.moves ≤ 4) : fz_C l g yX4_move cX4_move 9 (some .int) 3 66 [.ref (o 0), .int x, .int y, .int w, .int h, .int x2, .int y2] (MW g o m0) (MW g o (mmR m0 x y w h x2 y2).2) (some (.int (mmR m0 x y w h x2 y2).1)) := by
  refine fz_C.of (by decide) (Nat.le_of_ble_eq_true rfl) ?_
  intro p e s m args below meth c A ls X hW hl
  have hx := X.1
  have hb := X.2.1
  have hl : lv_has ls 9 [(0, .ref (o 0)), (1, .int x), (2, .int y), (3, .int w), (4, .int h), (5, .int x2), (6, .int y2)] := hl
  have X : fz_X p s m meth c RX4 cX4_move 9 (some .int) g A := X
  have hW : fz_W g A s (MW g o m0) s.heap [] := hW
  refine lv_iload_n hx hb dX4_move_0 rfl (lv_at hl 1 rfl) ?_
  refine lv_iload_n hx hb dX4_move_1 rfl (lv_at hl 2 rfl) ?_
  refine lv_iload_n hx hb dX4_move_2 rfl (lv_at hl 3 rfl) ?_
  refine lv_iload hx hb dX4_move_3 (lv_at hl 4 rfl) ?_
  refine fz_cSi X hW (c_X4_isBlock l g x y w h _) lk_X4_72 rfl ⟨Nat.le_of_ble_eq_true rfl, Nat.le_of_ble_eq_true rfl⟩ hl rfl (Nat.le_of_ble_eq_true rfl) dX4_move_5 ⟨Nat.le_refl _, Nat.le_refl _⟩ (fun H locs hW => ?_)
  refine lv_if_eq (tgt := 28) hx hb dX4_move_8 (by decide) (fun c8 => ?_) (fun c8 => ?_)
  · skip
    have kb : ¬ okB x y w h := b01_0.mp c8
    refine lv_iconst (v := 0) hx hb dX4_move_28 (by decide) ?_
    refine lv_istore (lv' := [(7, .int 0), (0, .ref (o 0)), (1, .int x), (2, .int y), (3, .int w), (4, .int h), (5, .int x2), (6, .int y2)]) hx hb dX4_move_29 hl (by decide) rfl (fun ls hl => ?_)
    refine lv_aload_n hx hb dX4_move_31 rfl (lv_at hl 1 rfl) ?_
    refine lv_iload hx hb dX4_move_32 (lv_at hl 0 rfl) ?_
    refine lv_if_ne (tgt := 41) hx hb dX4_move_34 (by decide) (fun c34 => ?_) (fun c34 => ?_)
    · first | exact absurd c34 (by decide) | exact absurd (by decide) c34
    · skip
      refine lv_iconst (v := 1) hx hb dX4_move_37 (by decide) ?_
      refine lv_goto (tgt := 58) hx hb dX4_move_38 (by decide) ?_
      refine pf_X4_53 X hW 0 rfl (Nat.le_of_ble_eq_true rfl) dX4_move_58 (fun H locs hW => ?_)
      refine lv_aload_n hx hb dX4_move_61 rfl (lv_at hl 1 rfl) ?_
      refine gf_X4_53 X hW 0 rfl rfl dX4_move_62 ?_
      refine lv_if_le (tgt := 70) hx hb dX4_move_65 (by decide) (fun c65 => ?_) (fun c65 => ?_)
      · first | exact absurd c65 (by decide) | exact absurd (by decide) c65
      · skip
        refine lv_iconst (v := 0) hx hb dX4_move_68 (by decide) ?_
        exact fz_ri X (fz_cast (by unfold mmR; rw [if_neg kb]; rfl) hW) (by unfold mmR; rw [if_neg kb]) dX4_move_69
  · skip
    have kb : okB x y w h := b01_1 c8
    refine lv_iload hx hb dX4_move_11 (lv_at hl 5 rfl) ?_
    refine lv_iload hx hb dX4_move_13 (lv_at hl 6 rfl) ?_
    refine lv_iload_n hx hb dX4_move_15 rfl (lv_at hl 3 rfl) ?_
    refine lv_iload hx hb dX4_move_16 (lv_at hl 4 rfl) ?_
    refine fz_cSi X hW (c_X4_isBlock l g x2 y2 w h _) lk_X4_72 rfl ⟨Nat.le_of_ble_eq_true rfl, Nat.le_of_ble_eq_true rfl⟩ hl rfl (Nat.le_of_ble_eq_true rfl) dX4_move_18 ⟨Nat.le_refl _, Nat.le_refl _⟩ (fun H locs hW => ?_)
    refine lv_if_eq (tgt := 28) hx hb dX4_move_21 (by decide) (fun c21 => ?_) (fun c21 => ?_)
    · skip
      have kb2 : ¬ okB x2 y2 w h := b01_0.mp c21
      refine lv_iconst (v := 0) hx hb dX4_move_28 (by decide) ?_
      refine lv_istore (lv' := [(7, .int 0), (0, .ref (o 0)), (1, .int x), (2, .int y), (3, .int w), (4, .int h), (5, .int x2), (6, .int y2)]) hx hb dX4_move_29 hl (by decide) rfl (fun ls hl => ?_)
      refine lv_aload_n hx hb dX4_move_31 rfl (lv_at hl 1 rfl) ?_
      refine lv_iload hx hb dX4_move_32 (lv_at hl 0 rfl) ?_
      refine lv_if_ne (tgt := 41) hx hb dX4_move_34 (by decide) (fun c34 => ?_) (fun c34 => ?_)
      · first | exact absurd c34 (by decide) | exact absurd (by decide) c34
      · skip
        refine lv_iconst (v := 1) hx hb dX4_move_37 (by decide) ?_
        refine lv_goto (tgt := 58) hx hb dX4_move_38 (by decide) ?_
        refine pf_X4_53 X hW 0 rfl (Nat.le_of_ble_eq_true rfl) dX4_move_58 (fun H locs hW => ?_)
        refine lv_aload_n hx hb dX4_move_61 rfl (lv_at hl 1 rfl) ?_
        refine gf_X4_53 X hW 0 rfl rfl dX4_move_62 ?_
        refine lv_if_le (tgt := 70) hx hb dX4_move_65 (by decide) (fun c65 => ?_) (fun c65 => ?_)
        · first | exact absurd c65 (by decide) | exact absurd (by decide) c65
        · skip
          refine lv_iconst (v := 0) hx hb dX4_move_68 (by decide) ?_
          exact fz_ri X (fz_cast (by unfold mmR; rw [if_pos kb, if_neg kb2]; rfl) hW) (by unfold mmR; rw [if_pos kb, if_neg kb2]) dX4_move_69
    · skip
      have kb2 : okB x2 y2 w h := b01_1 c21
      refine lv_iconst (v := 1) hx hb dX4_move_24 (by decide) ?_
      refine lv_goto (tgt := 29) hx hb dX4_move_25 (by decide) ?_
      refine lv_istore (lv' := [(7, .int 1), (0, .ref (o 0)), (1, .int x), (2, .int y), (3, .int w), (4, .int h), (5, .int x2), (6, .int y2)]) hx hb dX4_move_29 hl (by decide) rfl (fun ls hl => ?_)
      refine lv_aload_n hx hb dX4_move_31 rfl (lv_at hl 1 rfl) ?_
      refine lv_iload hx hb dX4_move_32 (lv_at hl 0 rfl) ?_
      refine lv_if_ne (tgt := 41) hx hb dX4_move_34 (by decide) (fun c34 => ?_) (fun c34 => ?_)
      · skip
        have join70 : ∀ (u : Unit), ¬ (x = x2 ∧ y = y2) → ∀ (H : Heap) (locs : List Loc) (ls : Array Slot), fz_W g A s (MW g o (m0.thrS 0)) H locs → lv_has ls 9 [(0, .ref (o 0)), (1, .int x), (2, .int y), (3, .int w), (4, .int h), (5, .int x2), (6, .int y2)] → W p l e (fz_R 3 0 0 66) s m args below meth c H locs 0 0 (MQ below (fz_Q g (MW g o (mmR m0 x y w h x2 y2).2) (some (.int (mmR m0 x y w h x2 y2).1)) A) args s 0 0 A) (F0 m 70 ls []) := by
          intro u hne H locs ls hW hl
          obtain ⟨i, j, wd, hg, e1, e2, e3, e4, w1, g1, b1, b2, n1, n2, n3, n4⟩ := okB_nat kb
          obtain ⟨i2, j2, wd2, hg2, e5, e6, -, -, -, -, b3, b4, n5, n6, n7, n8⟩ := okB_nat kb2
          have ew : wd2 = wd := n7.symm.trans n3
          have eh : hg2 = hg := n8.symm.trans n4
          rw [ew] at b3
          rw [eh] at b4
          have h48 := blk48 wd hg (by omega) (by omega)
          have hR : mmR m0 x y w h x2 y2 = (nI (mmV (m0.thrS 0) (mkM i j wd hg i2 j2)).moves, mmV (m0.thrS 0) (mkM i j wd hg i2 j2)) := by unfold mmR; rw [if_pos kb, if_pos kb2, if_neg hne, n1, n2, n3, n4, n5, n6]
          have hl : lv_has ls 9 [(0, .ref (o 0)), (1, .int (nI i)), (2, .int (nI j)), (3, .int (nI wd)), (4, .int (nI hg)), (5, .int (nI i2)), (6, .int (nI j2))] := by rw [← e1, ← e2, ← e3, ← e4, ← e5, ← e6]; exact hl
          refine lv_aload_n hx hb dX4_move_70 rfl (lv_at hl 0 rfl) ?_
          refine lv_aload_n hx hb dX4_move_71 rfl (lv_at hl 0 rfl) ?_
          refine gf_X4_7 X hW 0 rfl rfl dX4_move_72 ?_
          refine lv_bipush (v := 8) hx hb dX4_move_75 (by decide) ?_
          refine lv_iload_n hx hb dX4_move_77 rfl (lv_at hl 2 rfl) ?_
          refine lv_imul hx hb dX4_move_78 ?_
          refine lv_iload_n hx hb dX4_move_79 rfl (lv_at hl 1 rfl) ?_
          refine lv_iadd hx hb dX4_move_80 ?_
          refine fz_top (x' := nI (8 * j + i)) (fz_tl _ _) ?_
          refine lv_iload_n hx hb dX4_move_81 rfl (lv_at hl 3 rfl) ?_
          refine lv_iload hx hb dX4_move_82 (lv_at hl 4 rfl) ?_
          refine fz_cVv X hW (c_X4_copiesN l g o (m0.thrS 0) (8 * j + i) wd hg w1 (by omega) h48 (fun y hy => by obtain ⟨k1, k2⟩ := blk y wd hg w1 hy; omega)) lk_X4_84 (ci := 4) (q0 := 0) rfl rfl rfl rfl ⟨Nat.le_of_ble_eq_true rfl, Nat.le_of_ble_eq_true rfl⟩ hl rfl (Nat.le_of_ble_eq_true rfl) dX4_move_84 ⟨Nat.le_refl _, Nat.le_refl _⟩ (fun H locs hW => ?_)
          refine lv_iconst (v := 0) hx hb dX4_move_87 (by decide) ?_
          refine lv_istore (lv' := [(8, .int 0), (0, .ref (o 0)), (1, .int (nI i)), (2, .int (nI j)), (3, .int (nI wd)), (4, .int (nI hg)), (5, .int (nI i2)), (6, .int (nI j2))]) hx hb dX4_move_88 hl (by decide) rfl (fun ls hl => ?_)
          have loop90 : ∀ (k : Nat) (yy : Nat), yy ≤ wd * hg → wd * hg < yy + k → ∀ (H : Heap) (locs : List Loc) (ls : Array Slot), fz_W g A s (MW g o (mml (mbV (m0.thrS 0) (m0.thrS 0).near (8 * j + i) wd (wd * hg)) i2 j2 wd yy)) H locs → lv_has ls 9 [(0, .ref (o 0)), (1, .int (nI i)), (2, .int (nI j)), (3, .int (nI wd)), (4, .int (nI hg)), (5, .int (nI i2)), (6, .int (nI j2)), (8, .int (nI yy))] → W p l e (fz_R 3 0 0 66) s m args below meth c H locs 0 0 (MQ below (fz_Q g (MW g o (mmR m0 x y w h x2 y2).2) (some (.int (mmR m0 x y w h x2 y2).1)) A) args s 0 0 A) (F0 m 90 ls []) := by
            intro k
            induction k with
            | zero =>
              intro yy hy hk
              omega
            | succ k ih90 =>
              intro yy hy hk H locs ls hW hl
              refine lv_iload hx hb dX4_move_90 (lv_at hl 7 rfl) ?_
              refine lv_iload_n hx hb dX4_move_92 rfl (lv_at hl 3 rfl) ?_
              refine lv_iload hx hb dX4_move_93 (lv_at hl 4 rfl) ?_
              refine lv_imul hx hb dX4_move_95 ?_
              refine lv_icmp_ge (tgt := 134) hx hb dX4_move_96 (by decide) (fun c96 => ?_) (fun c96 => ?_)
              · skip
                rw [pk_mul] at c96
                have h96 : wd * hg ≤ yy := (nI_leI (a := wd * hg) (b := yy) (by omega) (by omega)).mp c96
                have e96 : yy = wd * hg := by omega
                have hmk : (mml (mbV (m0.thrS 0) (m0.thrS 0).near (8 * j + i) wd (wd * hg)) i2 j2 wd yy).moves = m0.moves := mml_keep _ _ _ _ _
                have eA : mmA (m0.thrS 0) (mkM i j wd hg i2 j2) = (mml (mbV (m0.thrS 0) (m0.thrS 0).near (8 * j + i) wd (wd * hg)) i2 j2 wd yy) := by rw [e96]; rfl
                have hl := lv_sub hl [0, 1, 2, 3, 4, 5, 6] rfl
                have hl : lv_has ls 9 [(0, .ref (o 0)), (1, .int (nI i)), (2, .int (nI j)), (3, .int (nI wd)), (4, .int (nI hg)), (5, .int (nI i2)), (6, .int (nI j2))] := hl
                refine lv_aload_n hx hb dX4_move_134 rfl (lv_at hl 0 rfl) ?_
                refine gf_X4_88 X hW 0 rfl rfl dX4_move_135 ?_
                refine lv_iconst (v := 4) hx hb dX4_move_138 (by decide) ?_
                refine lv_icmp_ge (tgt := 205) hx hb dX4_move_139 (by decide) (fun c139 => ?_) (fun c139 => ?_)
                · skip
                  have h139 : 4 ≤ (mml (mbV (m0.thrS 0) (m0.thrS 0).near (8 * j + i) wd (wd * hg)) i2 j2 wd yy).moves := (nI_leI (a := 4) (b := (mml (mbV (m0.thrS 0) (m0.thrS 0).near (8 * j + i) wd (wd * hg)) i2 j2 wd yy).moves) (by omega) (by omega)).mp c139
                  have hV : mmV (m0.thrS 0) (mkM i j wd hg i2 j2) = (mml (mbV (m0.thrS 0) (m0.thrS 0).near (8 * j + i) wd (wd * hg)) i2 j2 wd yy) := by unfold mmV; rw [eA, if_neg (by omega)]
                  refine lv_aload_n hx hb dX4_move_205 rfl (lv_at hl 0 rfl) ?_
                  refine gf_X4_88 X hW 0 rfl rfl dX4_move_206 ?_
                  exact fz_ri X (fz_cast (by rw [hR, hV]) hW) (by rw [hR, hV]) dX4_move_209
                · skip
                  have h139 : (mml (mbV (m0.thrS 0) (m0.thrS 0).near (8 * j + i) wd (wd * hg)) i2 j2 wd yy).moves < 4 := Nat.not_le.mp (fun z => c139 ((nI_leI (a := 4) (b := (mml (mbV (m0.thrS 0) (m0.thrS 0).near (8 * j + i) wd (wd * hg)) i2 j2 wd yy).moves) (by omega) (by omega)).mpr z))
                  have hV : mmV (m0.thrS 0) (mkM i j wd hg i2 j2) = mmP (mml (mbV (m0.thrS 0) (m0.thrS 0).near (8 * j + i) wd (wd * hg)) i2 j2 wd yy) (mkM i j wd hg i2 j2) := by unfold mmV; rw [eA, if_pos (by omega)]
                  refine lv_aload_n hx hb dX4_move_142 rfl (lv_at hl 0 rfl) ?_
                  refine gf_X4_22 X hW 0 rfl rfl dX4_move_143 ?_
                  refine lv_aload_n hx hb dX4_move_146 rfl (lv_at hl 0 rfl) ?_
                  refine gf_X4_88 X hW 0 rfl rfl dX4_move_147 ?_
                  refine lv_bipush (v := 8) hx hb dX4_move_150 (by decide) ?_
                  refine lv_iload_n hx hb dX4_move_152 rfl (lv_at hl 2 rfl) ?_
                  refine lv_imul hx hb dX4_move_153 ?_
                  refine lv_iload_n hx hb dX4_move_154 rfl (lv_at hl 1 rfl) ?_
                  refine lv_iadd hx hb dX4_move_155 ?_
                  refine fz_top (x' := nI (8 * j + i)) (fz_tl _ _) ?_
                  refine fz_is X hW 5 ((mml (mbV (m0.thrS 0) (m0.thrS 0).near (8 * j + i) wd (wd * hg)) i2 j2 wd yy).moves) rfl rfl (by omega) (by decide) dX4_move_156 (fun H locs hW => ?_)
                  refine lv_aload_n hx hb dX4_move_157 rfl (lv_at hl 0 rfl) ?_
                  refine gf_X4_25 X hW 0 rfl rfl dX4_move_158 ?_
                  refine lv_aload_n hx hb dX4_move_161 rfl (lv_at hl 0 rfl) ?_
                  refine gf_X4_88 X hW 0 rfl rfl dX4_move_162 ?_
                  refine lv_bipush (v := 8) hx hb dX4_move_165 (by decide) ?_
                  refine lv_iload hx hb dX4_move_167 (lv_at hl 6 rfl) ?_
                  refine lv_imul hx hb dX4_move_169 ?_
                  refine lv_iload hx hb dX4_move_170 (lv_at hl 5 rfl) ?_
                  refine lv_iadd hx hb dX4_move_172 ?_
                  refine fz_top (x' := nI (8 * j2 + i2)) (fz_tl _ _) ?_
                  refine fz_is X hW 6 ((mml (mbV (m0.thrS 0) (m0.thrS 0).near (8 * j + i) wd (wd * hg)) i2 j2 wd yy).moves) rfl rfl (by omega) (by decide) dX4_move_173 (fun H locs hW => ?_)
                  refine lv_aload_n hx hb dX4_move_174 rfl (lv_at hl 0 rfl) ?_
                  refine gf_X4_28 X hW 0 rfl rfl dX4_move_175 ?_
                  refine lv_aload_n hx hb dX4_move_178 rfl (lv_at hl 0 rfl) ?_
                  refine gf_X4_88 X hW 0 rfl rfl dX4_move_179 ?_
                  refine lv_iload_n hx hb dX4_move_182 rfl (lv_at hl 3 rfl) ?_
                  refine fz_is X hW 7 ((mml (mbV (m0.thrS 0) (m0.thrS 0).near (8 * j + i) wd (wd * hg)) i2 j2 wd yy).moves) rfl rfl (by omega) (by decide) dX4_move_183 (fun H locs hW => ?_)
                  refine lv_aload_n hx hb dX4_move_184 rfl (lv_at hl 0 rfl) ?_
                  refine gf_X4_31 X hW 0 rfl rfl dX4_move_185 ?_
                  refine lv_aload_n hx hb dX4_move_188 rfl (lv_at hl 0 rfl) ?_
                  refine gf_X4_88 X hW 0 rfl rfl dX4_move_189 ?_
                  refine lv_iload hx hb dX4_move_192 (lv_at hl 4 rfl) ?_
                  refine fz_is X hW 8 ((mml (mbV (m0.thrS 0) (m0.thrS 0).near (8 * j + i) wd (wd * hg)) i2 j2 wd yy).moves) rfl rfl (by omega) (by decide) dX4_move_194 (fun H locs hW => ?_)
                  refine lv_aload_n hx hb dX4_move_195 rfl (lv_at hl 0 rfl) ?_
                  refine lv_dup hx hb dX4_move_196 rfl ?_
                  refine gf_X4_88 X hW 0 rfl rfl dX4_move_197 ?_
                  refine lv_iconst (v := 1) hx hb dX4_move_200 (by decide) ?_
                  refine lv_iadd hx hb dX4_move_201 ?_
                  refine fz_top (x' := nI ((mml (mbV (m0.thrS 0) (m0.thrS 0).near (8 * j + i) wd (wd * hg)) i2 j2 wd yy).moves + 1)) (nI_1 _) ?_
                  refine pf_X4_88 X hW 0 rfl (Nat.le_of_ble_eq_true rfl) dX4_move_202 (fun H locs hW => ?_)
                  refine lv_aload_n hx hb dX4_move_205 rfl (lv_at hl 0 rfl) ?_
                  refine gf_X4_88 X hW 0 rfl rfl dX4_move_206 ?_
                  exact fz_ri X (fz_cast (by rw [hR, hV]; rfl) hW) (by rw [hR, hV]; rfl) dX4_move_209
              · skip
                rw [pk_mul] at c96
                have h96 : yy < wd * hg := Nat.not_le.mp (fun z => c96 ((nI_leI (a := wd * hg) (b := yy) (by omega) (by omega)).mpr z))
                obtain ⟨k1, k2⟩ := blk yy wd hg w1 h96
                refine lv_aload_n hx hb dX4_move_99 rfl (lv_at hl 0 rfl) ?_
                refine lv_bipush (v := 8) hx hb dX4_move_100 (by decide) ?_
                refine lv_iload hx hb dX4_move_102 (lv_at hl 6 rfl) ?_
                refine lv_iload hx hb dX4_move_104 (lv_at hl 7 rfl) ?_
                refine lv_iload_n hx hb dX4_move_106 rfl (lv_at hl 3 rfl) ?_
                refine lv_idiv hx hb dX4_move_107 (nI_ne _ (by omega) (by omega)) ?_
                refine lv_iadd hx hb dX4_move_108 ?_
                refine lv_imul hx hb dX4_move_109 ?_
                refine lv_iload hx hb dX4_move_110 (lv_at hl 5 rfl) ?_
                refine lv_iadd hx hb dX4_move_112 ?_
                refine lv_iload hx hb dX4_move_113 (lv_at hl 7 rfl) ?_
                refine lv_iload_n hx hb dX4_move_115 rfl (lv_at hl 3 rfl) ?_
                refine lv_irem hx hb dX4_move_116 (nI_ne _ (by omega) (by omega)) ?_
                refine lv_iadd hx hb dX4_move_117 ?_
                refine fz_top (x' := nI (8 * (j2 + yy / wd) + i2 + yy % wd)) (fz_ix2 _ _ _ _ (by omega) (by omega) (by omega)) ?_
                refine lv_aload_n hx hb dX4_move_118 rfl (lv_at hl 0 rfl) ?_
                refine gf_X4_40 X hW 0 rfl rfl dX4_move_119 ?_
                refine lv_iload hx hb dX4_move_122 (lv_at hl 7 rfl) ?_
                refine fz_il X hW 11 (yy) rfl rfl (by omega) (by decide) dX4_move_124 ?_
                refine fz_cVv X hW (c_X4_draws l g o (mml (mbV (m0.thrS 0) (m0.thrS 0).near (8 * j + i) wd (wd * hg)) i2 j2 wd yy) (8 * (j2 + yy / wd) + i2 + yy % wd) ((mml (mbV (m0.thrS 0) (m0.thrS 0).near (8 * j + i) wd (wd * hg)) i2 j2 wd yy).block yy) (by omega)) lk_X4_76 (ci := 4) (q0 := 0) rfl rfl rfl rfl ⟨Nat.le_of_ble_eq_true rfl, Nat.le_of_ble_eq_true rfl⟩ hl rfl (Nat.le_of_ble_eq_true rfl) dX4_move_125 ⟨Nat.le_refl _, Nat.le_refl _⟩ (fun H locs hW => ?_)
                refine lv_iinc (v := nI (yy + 1)) (lv' := [(8, .int (nI (yy + 1))), (0, .ref (o 0)), (1, .int (nI i)), (2, .int (nI j)), (3, .int (nI wd)), (4, .int (nI hg)), (5, .int (nI i2)), (6, .int (nI j2))]) hx hb dX4_move_128 hl (k := 7) rfl (nI_1 _) (by decide) rfl (fun ls hl => ?_)
                refine lv_goto (tgt := 90) hx hb dX4_move_131 (by decide) ?_
                exact ih90 (yy + 1) (by omega) (by omega) _ _ _ (fz_cast (rfl) hW) (lv_sub hl [1, 2, 3, 4, 5, 6, 7, 0] rfl)
          exact loop90 (wd * hg + 1) 0 (by omega) (by omega) _ _ _ (fz_cast (rfl) hW) (lv_sub hl [1, 2, 3, 4, 5, 6, 7, 0] rfl)
        refine lv_iload_n hx hb dX4_move_41 rfl (lv_at hl 2 rfl) ?_
        refine lv_iload hx hb dX4_move_42 (lv_at hl 6 rfl) ?_
        refine lv_icmp_ne (tgt := 57) hx hb dX4_move_44 (by decide) (fun c44 => ?_) (fun c44 => ?_)
        · skip
          refine lv_iconst (v := 0) hx hb dX4_move_57 (by decide) ?_
          refine pf_X4_53 X hW 0 rfl (Nat.le_of_ble_eq_true rfl) dX4_move_58 (fun H locs hW => ?_)
          refine lv_aload_n hx hb dX4_move_61 rfl (lv_at hl 1 rfl) ?_
          refine gf_X4_53 X hW 0 rfl rfl dX4_move_62 ?_
          refine lv_if_le (tgt := 70) hx hb dX4_move_65 (by decide) (fun c65 => ?_) (fun c65 => ?_)
          · skip
            exact join70 () (fun z => c44 z.1) _ _ _ (fz_cast (rfl) hW) (lv_sub hl [1, 2, 3, 4, 5, 6, 7] rfl)
          · first | exact absurd c65 (by decide) | exact absurd (by decide) c65
        · skip
          refine lv_iload_n hx hb dX4_move_47 rfl (lv_at hl 3 rfl) ?_
          refine lv_iload hx hb dX4_move_48 (lv_at hl 7 rfl) ?_
          refine lv_icmp_ne (tgt := 57) hx hb dX4_move_50 (by decide) (fun c50 => ?_) (fun c50 => ?_)
          · skip
            refine lv_iconst (v := 0) hx hb dX4_move_57 (by decide) ?_
            refine pf_X4_53 X hW 0 rfl (Nat.le_of_ble_eq_true rfl) dX4_move_58 (fun H locs hW => ?_)
            refine lv_aload_n hx hb dX4_move_61 rfl (lv_at hl 1 rfl) ?_
            refine gf_X4_53 X hW 0 rfl rfl dX4_move_62 ?_
            refine lv_if_le (tgt := 70) hx hb dX4_move_65 (by decide) (fun c65 => ?_) (fun c65 => ?_)
            · skip
              exact join70 () (fun z => c50 z.2) _ _ _ (fz_cast (rfl) hW) (lv_sub hl [1, 2, 3, 4, 5, 6, 7] rfl)
            · first | exact absurd c65 (by decide) | exact absurd (by decide) c65
          · skip
            refine lv_iconst (v := 2) hx hb dX4_move_53 (by decide) ?_
            refine lv_goto (tgt := 58) hx hb dX4_move_54 (by decide) ?_
            refine pf_X4_53 X hW 0 rfl (Nat.le_of_ble_eq_true rfl) dX4_move_58 (fun H locs hW => ?_)
            refine lv_aload_n hx hb dX4_move_61 rfl (lv_at hl 1 rfl) ?_
            refine gf_X4_53 X hW 0 rfl rfl dX4_move_62 ?_
            refine lv_if_le (tgt := 70) hx hb dX4_move_65 (by decide) (fun c65 => ?_) (fun c65 => ?_)
            · first | exact absurd c65 (by decide) | exact absurd (by decide) c65
            · skip
              refine lv_iconst (v := 0) hx hb dX4_move_68 (by decide) ?_
              exact fz_ri X (fz_cast (by unfold mmR; rw [if_pos kb, if_pos kb2, if_pos ⟨c44, c50⟩]; rfl) hW) (by unfold mmR; rw [if_pos kb, if_pos kb2, if_pos ⟨c44, c50⟩]) dX4_move_69
      · first | exact absurd c34 (by decide) | exact absurd (by decide) c34
