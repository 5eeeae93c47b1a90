theorem mtl_keep (m : MV) (h : Nat → Nat) : ∀ k, (mtl m h k).mT = m.mT ∧ (mtl m h k).mH = m.mH ∧ (mtl m h k).mF = m.mF ∧ (mtl m h k).mW = m.mW ∧ (mtl m h k).moves = m.moves := by
  intro k
  induction k with
  | zero => exact ⟨rfl, rfl, rfl, rfl, rfl⟩
  | succ k ih => exact ih
theorem sh1_0 (f : Nat → Int32) : sh1 f 0 = f := fz_to_0 _ _
theorem sh1_s (f : Nat → Int32) (i : Nat) : upd (sh1 f i) i (sh1 f i (i + 1)) = sh1 f (i + 1) := fz_to_s _ _ _ (fz_to_ge (by omega))
theorem msh_0 (m : MV) : msh m 0 = m := by
  unfold msh
  rw [sh1_0, sh1_0, sh1_0, sh1_0]
  rfl
theorem msh_s (m : MV) (i : Nat) : (MV.mk9 m.thr m.time m.look m.near m.far m.since m.ch m.moves (upd (sh1 m.mF i) i (sh1 m.mF i (i + 1))) (upd (sh1 m.mT i) i (sh1 m.mT i (i + 1))) (upd (sh1 m.mW i) i (sh1 m.mW i (i + 1))) (upd (sh1 m.mH i) i (sh1 m.mH i (i + 1))) m.pics m.known m.sent m.used m.block m.done m.worth m.kept m.at_) = msh m (i + 1) := by
  rw [sh1_s, sh1_s, sh1_s, sh1_s]
  rfl
set_option maxHeartbeats 4000000 in
set_option maxRecDepth 100000 in
theorem c_X4_tellsMove (l : Launch) (g : GG) (o : Nat → Nat) (m0 : MV) (h : Nat → Nat) (hm : MOK h) (hw : 1 ≤ h 2) (e1 : m0.mF 0 = nI (8 * h 1 + h 0)) (e2 : m0.mT 0 = nI (8 * h 5 + h 4)) (e3 : m0.mW 0 = nI (h 2)) (e4 : m0.mH 0 = nI (h 3)) (hv1 : 1 ≤ m0.moves) (hv4 : m0.moves ≤ 4) : fz_C l g yX4_tellsMove cX4_tellsMove 4 none 1 25 [.ref (o 0)] (MW g o m0) (MW g o (mtV m0 h)) none := by
  refine fz_C.of (by decide) (Nat.le_of_ble_eq_true rfl) ?_
  intro p e s m args below meth c A ls X hW hl
  have hx := X.1
  have hb := X.2.1
  have hl : lv_has ls 4 [(0, .ref (o 0))] := hl
  have X : fz_X p s m meth c RX4 cX4_tellsMove 4 none g A := X
  have hW : fz_W g A s (MW g o m0) s.heap [] := hW
  obtain ⟨m1, m2, m3, m4⟩ := hm
  have h48 := blk48 (h 2) (h 3) (by omega) (by omega)
  have kA : (mtA m0 h).moves = m0.moves := (mtl_keep _ h _).2.2.2.2
  refine lv_aload_n hx hb dX4_tellsMove_0 rfl (lv_at hl 0 rfl) ?_
  refine gf_X4_28 X hW 0 rfl rfl dX4_tellsMove_1 ?_
  refine lv_iconst (v := 0) hx hb dX4_tellsMove_4 (by decide) ?_
  refine fz_il X hW 7 (0) rfl rfl (by omega) (by decide) dX4_tellsMove_5 ?_
  refine fz_top (x' := nI (h 2)) e3 ?_
  refine lv_istore_n (lv' := [(1, .int (nI (h 2))), (0, .ref (o 0))]) hx hb dX4_tellsMove_6 rfl hl (by decide) rfl (fun ls hl => ?_)
  refine lv_aload_n hx hb dX4_tellsMove_7 rfl (lv_at hl 1 rfl) ?_
  refine lv_aload_n hx hb dX4_tellsMove_8 rfl (lv_at hl 1 rfl) ?_
  refine gf_X4_13 X hW 0 rfl rfl dX4_tellsMove_9 ?_
  refine lv_aload_n hx hb dX4_tellsMove_12 rfl (lv_at hl 1 rfl) ?_
  refine gf_X4_22 X hW 0 rfl rfl dX4_tellsMove_13 ?_
  refine lv_iconst (v := 0) hx hb dX4_tellsMove_16 (by decide) ?_
  refine fz_il X hW 5 (0) rfl rfl (by omega) (by decide) dX4_tellsMove_17 ?_
  refine fz_top (x' := nI (8 * h 1 + h 0)) e1 ?_
  refine lv_iload_n hx hb dX4_tellsMove_18 rfl (lv_at hl 0 rfl) ?_
  refine lv_aload_n hx hb dX4_tellsMove_19 rfl (lv_at hl 1 rfl) ?_
  refine gf_X4_31 X hW 0 rfl rfl dX4_tellsMove_20 ?_
  refine lv_iconst (v := 0) hx hb dX4_tellsMove_23 (by decide) ?_
  refine fz_il X hW 8 (0) rfl rfl (by omega) (by decide) dX4_tellsMove_24 ?_
  refine fz_top (x' := nI (h 3)) e4 ?_
  refine fz_cVv X hW (c_X4_copiesF l g o m0 (8 * h 1 + h 0) (h 2) (h 3) hw (by omega) h48 (fun y hy => by obtain ⟨k1, k2⟩ := blk y (h 2) (h 3) hw hy; omega)) lk_X4_84 (ci := 4) (q0 := 0) rfl rfl rfl rfl ⟨Nat.le_of_ble_eq_true rfl, Nat.le_of_ble_eq_true rfl⟩ hl rfl (Nat.le_of_ble_eq_true rfl) dX4_tellsMove_25 ⟨Nat.le_refl _, Nat.le_refl _⟩ (fun H locs hW => ?_)
  refine lv_iconst (v := 0) hx hb dX4_tellsMove_28 (by decide) ?_
  refine lv_istore_n (lv' := [(2, .int 0), (1, .int (nI (h 2))), (0, .ref (o 0))]) hx hb dX4_tellsMove_29 rfl hl (by decide) rfl (fun ls hl => ?_)
  have loop30 : ∀ (k : Nat) (yy : Nat), yy ≤ h 2 * h 3 → h 2 * h 3 < yy + k → ∀ (H : Heap) (locs : List Loc) (ls : Array Slot), fz_W g A s (MW g o (mtl (mbV m0 m0.far (8 * h 1 + h 0) (h 2) (h 2 * h 3)) h yy)) H locs → lv_has ls 4 [(0, .ref (o 0)), (1, .int (nI (h 2))), (2, .int (nI yy))] → W p l e (fz_R 1 0 0 25) s m args below meth c H locs 0 0 (MQ below (fz_Q g (MW g o (mtV m0 h)) none A) args s 0 0 A) (F0 m 30 ls []) := by
    intro k
    induction k with
    | zero =>
      intro yy hy hk
      omega
    | succ k ih30 =>
      intro yy hy hk H locs ls hW hl
      obtain ⟨kT, kH, kF, kW, kM⟩ := mtl_keep (mbV m0 m0.far (8 * h 1 + h 0) (h 2) (h 2 * h 3)) h yy
      refine lv_iload_n hx hb dX4_tellsMove_30 rfl (lv_at hl 2 rfl) ?_
      refine lv_iload_n hx hb dX4_tellsMove_31 rfl (lv_at hl 1 rfl) ?_
      refine lv_aload_n hx hb dX4_tellsMove_32 rfl (lv_at hl 0 rfl) ?_
      refine gf_X4_31 X hW 0 rfl rfl dX4_tellsMove_33 ?_
      refine lv_iconst (v := 0) hx hb dX4_tellsMove_36 (by decide) ?_
      refine fz_il X hW 8 (0) rfl rfl (by omega) (by decide) dX4_tellsMove_37 ?_
      refine fz_top (x' := nI (h 3)) (by rw [kH]; exact e4) ?_
      refine lv_imul hx hb dX4_tellsMove_38 ?_
      refine lv_icmp_ge (tgt := 83) hx hb dX4_tellsMove_39 (by decide) (fun c39 => ?_) (fun c39 => ?_)
      · skip
        rw [pk_mul] at c39
        have h39 : h 2 * h 3 ≤ yy := (nI_leI (a := h 2 * h 3) (b := yy) (by omega) (by omega)).mp c39
        have e39 : yy = h 2 * h 3 := by omega
        subst e39
        have hl := lv_sub hl [0, 1] rfl
        have hl : lv_has ls 4 [(0, .ref (o 0)), (1, .int (nI (h 2)))] := hl
        refine lv_aload_n hx hb dX4_tellsMove_83 rfl (lv_at hl 0 rfl) ?_
        refine lv_dup hx hb dX4_tellsMove_84 rfl ?_
        refine gf_X4_88 X hW 0 rfl rfl dX4_tellsMove_85 ?_
        refine lv_iconst (v := 1) hx hb dX4_tellsMove_88 (by decide) ?_
        refine lv_isub hx hb dX4_tellsMove_89 ?_
        refine fz_top (x' := nI (m0.moves - 1)) (by rw [kM]; exact pk_sub (b := 1) hv1) ?_
        refine pf_X4_88 X hW 0 rfl (Nat.le_of_ble_eq_true rfl) dX4_tellsMove_90 (fun H locs hW => ?_)
        refine lv_iconst (v := 0) hx hb dX4_tellsMove_93 (by decide) ?_
        refine lv_istore_n (lv' := [(2, .int 0), (0, .ref (o 0)), (1, .int (nI (h 2)))]) hx hb dX4_tellsMove_94 rfl hl (by decide) rfl (fun ls hl => ?_)
        have loop95 : ∀ (k : Nat) (i : Nat), i ≤ m0.moves - 1 → m0.moves - 1 < i + k → ∀ (H : Heap) (locs : List Loc) (ls : Array Slot), fz_W g A s (MW g o (msh ((mtA m0 h).movesS (m0.moves - 1)) i)) H locs → lv_has ls 4 [(0, .ref (o 0)), (1, .int (nI (h 2))), (2, .int (nI i))] → W p l e (fz_R 1 0 0 25) s m args below meth c H locs 0 0 (MQ below (fz_Q g (MW g o (mtV m0 h)) none A) args s 0 0 A) (F0 m 95 ls []) := by
          intro k
          induction k with
          | zero =>
            intro i hi hk
            omega
          | succ k ih95 =>
            intro i hi hk H locs ls hW hl
            refine lv_iload_n hx hb dX4_tellsMove_95 rfl (lv_at hl 2 rfl) ?_
            refine lv_aload_n hx hb dX4_tellsMove_96 rfl (lv_at hl 0 rfl) ?_
            refine gf_X4_88 X hW 0 rfl rfl dX4_tellsMove_97 ?_
            refine lv_icmp_ge (tgt := 165) hx hb dX4_tellsMove_100 (by decide) (fun c100 => ?_) (fun c100 => ?_)
            · skip
              have h100 : (m0.moves - 1) ≤ i := (nI_leI (a := (m0.moves - 1)) (b := i) (by omega) (by omega)).mp c100
              have e100 : i = m0.moves - 1 := by omega
              subst e100
              have hl := lv_sub hl [0, 1] rfl
              have hl : lv_has ls 4 [(0, .ref (o 0)), (1, .int (nI (h 2)))] := hl
              refine lv_aload_n hx hb dX4_tellsMove_165 rfl (lv_at hl 0 rfl) ?_
              refine gf_X4_37 X hW 0 rfl rfl dX4_tellsMove_166 ?_
              refine lv_iconst (v := 0) hx hb dX4_tellsMove_169 (by decide) ?_
              refine lv_dup2_11 hx hb dX4_tellsMove_170 rfl rfl ?_
              refine fz_il X hW 10 (0) rfl rfl (by omega) (by decide) dX4_tellsMove_171 ?_
              refine lv_iconst (v := 1) hx hb dX4_tellsMove_172 (by decide) ?_
              refine lv_iadd hx hb dX4_tellsMove_173 ?_
              refine fz_is X hW 10 (0) rfl rfl (by omega) (by decide) dX4_tellsMove_174 (fun H locs hW => ?_)
              exact fz_rv X (fz_cast (by unfold mtV mtB; rw [kA]; rfl) hW) dX4_tellsMove_175
            · skip
              have h100 : i < (m0.moves - 1) := Nat.not_le.mp (fun z => c100 ((nI_leI (a := (m0.moves - 1)) (b := i) (by omega) (by omega)).mpr z))
              refine lv_aload_n hx hb dX4_tellsMove_103 rfl (lv_at hl 0 rfl) ?_
              refine gf_X4_22 X hW 0 rfl rfl dX4_tellsMove_104 ?_
              refine lv_iload_n hx hb dX4_tellsMove_107 rfl (lv_at hl 2 rfl) ?_
              refine lv_aload_n hx hb dX4_tellsMove_108 rfl (lv_at hl 0 rfl) ?_
              refine gf_X4_22 X hW 0 rfl rfl dX4_tellsMove_109 ?_
              refine lv_iload_n hx hb dX4_tellsMove_112 rfl (lv_at hl 2 rfl) ?_
              refine lv_iconst (v := 1) hx hb dX4_tellsMove_113 (by decide) ?_
              refine lv_iadd hx hb dX4_tellsMove_114 ?_
              refine fz_il X hW 5 (i + 1) rfl (nI_1 _) (by omega) (by decide) dX4_tellsMove_115 ?_
              refine fz_is X hW 5 (i) rfl rfl (by omega) (by decide) dX4_tellsMove_116 (fun H locs hW => ?_)
              refine lv_aload_n hx hb dX4_tellsMove_117 rfl (lv_at hl 0 rfl) ?_
              refine gf_X4_25 X hW 0 rfl rfl dX4_tellsMove_118 ?_
              refine lv_iload_n hx hb dX4_tellsMove_121 rfl (lv_at hl 2 rfl) ?_
              refine lv_aload_n hx hb dX4_tellsMove_122 rfl (lv_at hl 0 rfl) ?_
              refine gf_X4_25 X hW 0 rfl rfl dX4_tellsMove_123 ?_
              refine lv_iload_n hx hb dX4_tellsMove_126 rfl (lv_at hl 2 rfl) ?_
              refine lv_iconst (v := 1) hx hb dX4_tellsMove_127 (by decide) ?_
              refine lv_iadd hx hb dX4_tellsMove_128 ?_
              refine fz_il X hW 6 (i + 1) rfl (nI_1 _) (by omega) (by decide) dX4_tellsMove_129 ?_
              refine fz_is X hW 6 (i) rfl rfl (by omega) (by decide) dX4_tellsMove_130 (fun H locs hW => ?_)
              refine lv_aload_n hx hb dX4_tellsMove_131 rfl (lv_at hl 0 rfl) ?_
              refine gf_X4_28 X hW 0 rfl rfl dX4_tellsMove_132 ?_
              refine lv_iload_n hx hb dX4_tellsMove_135 rfl (lv_at hl 2 rfl) ?_
              refine lv_aload_n hx hb dX4_tellsMove_136 rfl (lv_at hl 0 rfl) ?_
              refine gf_X4_28 X hW 0 rfl rfl dX4_tellsMove_137 ?_
              refine lv_iload_n hx hb dX4_tellsMove_140 rfl (lv_at hl 2 rfl) ?_
              refine lv_iconst (v := 1) hx hb dX4_tellsMove_141 (by decide) ?_
              refine lv_iadd hx hb dX4_tellsMove_142 ?_
              refine fz_il X hW 7 (i + 1) rfl (nI_1 _) (by omega) (by decide) dX4_tellsMove_143 ?_
              refine fz_is X hW 7 (i) rfl rfl (by omega) (by decide) dX4_tellsMove_144 (fun H locs hW => ?_)
              refine lv_aload_n hx hb dX4_tellsMove_145 rfl (lv_at hl 0 rfl) ?_
              refine gf_X4_31 X hW 0 rfl rfl dX4_tellsMove_146 ?_
              refine lv_iload_n hx hb dX4_tellsMove_149 rfl (lv_at hl 2 rfl) ?_
              refine lv_aload_n hx hb dX4_tellsMove_150 rfl (lv_at hl 0 rfl) ?_
              refine gf_X4_31 X hW 0 rfl rfl dX4_tellsMove_151 ?_
              refine lv_iload_n hx hb dX4_tellsMove_154 rfl (lv_at hl 2 rfl) ?_
              refine lv_iconst (v := 1) hx hb dX4_tellsMove_155 (by decide) ?_
              refine lv_iadd hx hb dX4_tellsMove_156 ?_
              refine fz_il X hW 8 (i + 1) rfl (nI_1 _) (by omega) (by decide) dX4_tellsMove_157 ?_
              refine fz_is X hW 8 (i) rfl rfl (by omega) (by decide) dX4_tellsMove_158 (fun H locs hW => ?_)
              refine lv_iinc (v := nI (i + 1)) (lv' := [(2, .int (nI (i + 1))), (0, .ref (o 0)), (1, .int (nI (h 2)))]) hx hb dX4_tellsMove_159 hl (k := 2) rfl (nI_1 _) (by decide) rfl (fun ls hl => ?_)
              refine lv_goto (tgt := 95) hx hb dX4_tellsMove_162 (by decide) ?_
              exact ih95 (i + 1) (by omega) (by omega) _ _ _ (fz_cast (congrArg (MW g o) (msh_s ((mtA m0 h).movesS (m0.moves - 1)) i)) hW) (lv_sub hl [1, 2, 0] rfl)
        have hW : fz_W g A s (MW g o ((mtA m0 h).movesS (m0.moves - 1))) H locs := hW
        exact loop95 (m0.moves - 1 + 1) 0 (by omega) (by omega) _ _ _ (fz_cast (congrArg (MW g o) (msh_0 ((mtA m0 h).movesS (m0.moves - 1))).symm) hW) (lv_sub hl [1, 2, 0] rfl)
      · skip
        rw [pk_mul] at c39
        have h39 : yy < h 2 * h 3 := Nat.not_le.mp (fun z => c39 ((nI_leI (a := h 2 * h 3) (b := yy) (by omega) (by omega)).mpr z))
        obtain ⟨q1, q2⟩ := blk yy (h 2) (h 3) hw h39
        refine lv_aload_n hx hb dX4_tellsMove_42 rfl (lv_at hl 0 rfl) ?_
        refine gf_X4_25 X hW 0 rfl rfl dX4_tellsMove_43 ?_
        refine lv_iconst (v := 0) hx hb dX4_tellsMove_46 (by decide) ?_
        refine fz_il X hW 6 (0) rfl rfl (by omega) (by decide) dX4_tellsMove_47 ?_
        refine fz_top (x' := nI (8 * h 5 + h 4)) (by rw [kT]; exact e2) ?_
        refine lv_bipush (v := 8) hx hb dX4_tellsMove_48 (by decide) ?_
        refine lv_iload_n hx hb dX4_tellsMove_50 rfl (lv_at hl 2 rfl) ?_
        refine lv_iload_n hx hb dX4_tellsMove_51 rfl (lv_at hl 1 rfl) ?_
        refine lv_idiv hx hb dX4_tellsMove_52 (nI_ne _ (by omega) (by omega)) ?_
        refine lv_imul hx hb dX4_tellsMove_53 ?_
        refine lv_iadd hx hb dX4_tellsMove_54 ?_
        refine lv_iload_n hx hb dX4_tellsMove_55 rfl (lv_at hl 2 rfl) ?_
        refine lv_iload_n hx hb dX4_tellsMove_56 rfl (lv_at hl 1 rfl) ?_
        refine lv_irem hx hb dX4_tellsMove_57 (nI_ne _ (by omega) (by omega)) ?_
        refine lv_iadd hx hb dX4_tellsMove_58 ?_
        refine fz_top (x' := nI (8 * h 5 + h 4 + 8 * (yy / h 2) + yy % h 2)) (fz_ix1 _ _ _ (by omega) (by omega) (by omega)) ?_
        refine lv_istore_n (lv' := [(3, .int (nI (8 * h 5 + h 4 + 8 * (yy / h 2) + yy % h 2))), (0, .ref (o 0)), (1, .int (nI (h 2))), (2, .int (nI yy))]) hx hb dX4_tellsMove_59 rfl hl (by decide) rfl (fun ls hl => ?_)
        refine lv_aload_n hx hb dX4_tellsMove_60 rfl (lv_at hl 1 rfl) ?_
        refine gf_X4_13 X hW 0 rfl rfl dX4_tellsMove_61 ?_
        refine lv_iload_n hx hb dX4_tellsMove_64 rfl (lv_at hl 0 rfl) ?_
        refine lv_aload_n hx hb dX4_tellsMove_65 rfl (lv_at hl 1 rfl) ?_
        refine gf_X4_40 X hW 0 rfl rfl dX4_tellsMove_66 ?_
        refine lv_iload_n hx hb dX4_tellsMove_69 rfl (lv_at hl 3 rfl) ?_
        refine fz_il X hW 11 (yy) rfl rfl (by omega) (by decide) dX4_tellsMove_70 ?_
        refine fz_is X hW 2 (8 * h 5 + h 4 + 8 * (yy / h 2) + yy % h 2) rfl rfl (by omega) (by decide) dX4_tellsMove_71 (fun H locs hW => ?_)
        refine lv_aload_n hx hb dX4_tellsMove_72 rfl (lv_at hl 1 rfl) ?_
        refine lv_iload_n hx hb dX4_tellsMove_73 rfl (lv_at hl 0 rfl) ?_
        refine fz_cVv X hW (c_X4_compares l g o ((mtl (mbV m0 m0.far (8 * h 1 + h 0) (h 2) (h 2 * h 3)) h yy).farS (upd (mtl (mbV m0 m0.far (8 * h 1 + h 0) (h 2) (h 2 * h 3)) h yy).far (8 * h 5 + h 4 + 8 * (yy / h 2) + yy % h 2) ((mtl (mbV m0 m0.far (8 * h 1 + h 0) (h 2) (h 2 * h 3)) h yy).block yy))) (8 * h 5 + h 4 + 8 * (yy / h 2) + yy % h 2) (by omega)) lk_X4_68 (ci := 4) (q0 := 0) rfl rfl rfl rfl ⟨Nat.le_of_ble_eq_true rfl, Nat.le_of_ble_eq_true rfl⟩ hl rfl (Nat.le_of_ble_eq_true rfl) dX4_tellsMove_74 ⟨Nat.le_refl _, Nat.le_refl _⟩ (fun H locs hW => ?_)
        refine lv_iinc (v := nI (yy + 1)) (lv' := [(2, .int (nI (yy + 1))), (3, .int (nI (8 * h 5 + h 4 + 8 * (yy / h 2) + yy % h 2))), (0, .ref (o 0)), (1, .int (nI (h 2)))]) hx hb dX4_tellsMove_77 hl (k := 3) rfl (nI_1 _) (by decide) rfl (fun ls hl => ?_)
        refine lv_goto (tgt := 30) hx hb dX4_tellsMove_80 (by decide) ?_
        exact ih30 (yy + 1) (by omega) (by omega) _ _ _ (fz_cast (rfl) hW) (lv_sub hl [2, 3, 0] rfl)
  exact loop30 (h 2 * h 3 + 1) 0 (by omega) (by omega) _ _ _ (fz_cast (rfl) hW) (lv_sub hl [2, 1, 0] rfl)
