set_option maxHeartbeats 4000000 in
set_option maxRecDepth 100000 in
theorem c_X4_passes (l : Launch) (g : GG) (o : Nat → Nat) (m0 : MV) (b : Int32) (hok : MOKs m0) : fz_C l g yX4_passes cX4_passes 5 (some .int) 2 49 [.ref (o 0), .int b] (MW g o m0) (MW g o (mpV m0 b)) (some (.int (b - (mpS m0 b).1))) := by
  refine fz_C.of (by decide) (Nat.le_of_ble_eq_true rfl) ?_
  intro p e s m args below meth c A ls X hW hl
  have hx := X.1
  have hb := X.2.1
  have hl : lv_has ls 5 [(0, .ref (o 0)), (1, .int b)] := hl
  have X : fz_X p s m meth c RX4 cX4_passes 5 (some .int) g A := X
  have hW : fz_W g A s (MW g o m0) s.heap [] := hW
  have join24 : ∀ (u : MV) (x : Int32), mpT m0 b m0.moves = (u, x) → MOKs u → ∀ (H : Heap) (locs : List Loc) (ls : Array Slot), fz_W g A s (MW g o u) H locs → lv_has ls 5 [(0, .ref (o 0)), (1, .int b), (2, .int x)] → W p l e (fz_R 2 0 0 49) s m args below meth c H locs 0 0 (MQ below (fz_Q g (MW g o (mpV m0 b)) (some (.int (b - (mpS m0 b).1))) A) args s 0 0 A) (F0 m 24 ls []) := by
    intro u x hu hok2 H locs ls hW hl
    refine lv_iconst (v := 0) hx hb dX4_passes_24 (by decide) ?_
    refine lv_istore_n (lv' := [(3, .int 0), (0, .ref (o 0)), (1, .int b), (2, .int x)]) hx hb dX4_passes_25 rfl hl (by decide) rfl (fun ls hl => ?_)
    have loop26 : ∀ (k : Nat) (t : Nat), t ≤ 48 → 48 < t + k → ∀ (H : Heap) (locs : List Loc) (ls : Array Slot), fz_W g A s (MW g o (mdW u t)) H locs → lv_has ls 5 [(0, .ref (o 0)), (1, .int b), (2, .int x), (3, .int (nI t))] → W p l e (fz_R 2 0 0 49) s m args below meth c H locs 0 0 (MQ below (fz_Q g (MW g o (mpV m0 b)) (some (.int (b - (mpS m0 b).1))) A) args s 0 0 A) (F0 m 26 ls []) := by
      intro k
      induction k with
      | zero =>
        intro t ht hk
        omega
      | succ k ih26 =>
        intro t ht hk H locs ls hW hl
        refine lv_iload_n hx hb dX4_passes_26 rfl (lv_at hl 3 rfl) ?_
        refine lv_bipush (v := 48) hx hb dX4_passes_27 (by decide) ?_
        refine lv_icmp_ge (tgt := 97) hx hb dX4_passes_29 (by decide) (fun c29 => ?_) (fun c29 => ?_)
        · skip
          have h29 : 48 ≤ t := (nI_leI (a := 48) (b := t) (by omega) (by omega)).mp c29
          have e29 : t = 48 := by omega
          have hl := lv_sub hl [0, 1, 2] rfl
          have hl : lv_has ls 5 [(0, .ref (o 0)), (1, .int b), (2, .int x)] := hl
          subst e29
          refine lv_aload_n hx hb dX4_passes_97 rfl (lv_at hl 0 rfl) ?_
          refine fz_cVi X hW (c_X4_nextTile l g o (mdW u 48)) lk_X4_114 (ci := 4) (q0 := 0) rfl rfl rfl rfl ⟨Nat.le_of_ble_eq_true rfl, Nat.le_of_ble_eq_true rfl⟩ hl rfl (Nat.le_of_ble_eq_true rfl) dX4_passes_98 ⟨Nat.le_refl _, Nat.le_refl _⟩ (fun H locs hW => ?_)
          refine lv_istore_n (lv' := [(3, .int (mnX (mdW u 48))), (0, .ref (o 0)), (1, .int b), (2, .int x)]) hx hb dX4_passes_101 rfl hl (by decide) rfl (fun ls hl => ?_)
          have loop102 : ∀ (k : Nat) (st : Int32 × MV), mun st.2.done 48 < k → mpS m0 b = mlF k st → st.2.pics ≤ 8 → ∀ (H : Heap) (locs : List Loc) (ls : Array Slot), fz_W g A s (MW g o st.2) H locs → lv_has ls 5 [(0, .ref (o 0)), (1, .int b), (2, .int st.1), (3, .int (mnX st.2))] → W p l e (fz_R 2 0 0 49) s m args below meth c H locs 0 0 (MQ below (fz_Q g (MW g o (mpV m0 b)) (some (.int (b - (mpS m0 b).1))) A) args s 0 0 A) (F0 m 102 ls []) := by
            intro k
            induction k with
            | zero =>
              intro st hk
              exact absurd hk (Nat.not_lt_zero _)
            | succ k ih102 =>
              intro st hk he hpc H locs ls hW hl
              refine lv_iload_n hx hb dX4_passes_102 rfl (lv_at hl 3 rfl) ?_
              refine lv_iconst (v := (-1)) hx hb dX4_passes_103 (by decide) ?_
              refine lv_icmp_eq (tgt := 131) hx hb dX4_passes_104 (by decide) (fun c104 => ?_) (fun c104 => ?_)
              · skip
                have c104 : mnX st.2 = -1 := c104
                have hfin : mpS m0 b = st := he.trans (if_pos c104)
                have hl := lv_sub hl [0, 1, 2] rfl
                have hl : lv_has ls 5 [(0, .ref (o 0)), (1, .int b), (2, .int st.1)] := hl
                refine lv_aload_n hx hb dX4_passes_131 rfl (lv_at hl 0 rfl) ?_
                refine lv_dup hx hb dX4_passes_132 rfl ?_
                refine gf_X4_65 X hW 0 rfl rfl dX4_passes_133 ?_
                refine lv_iconst (v := 1) hx hb dX4_passes_136 (by decide) ?_
                refine lv_iadd hx hb dX4_passes_137 ?_
                refine pf_X4_65 X hW 0 rfl (Nat.le_of_ble_eq_true rfl) dX4_passes_138 (fun H locs hW => ?_)
                refine lv_iconst (v := 0) hx hb dX4_passes_141 (by decide) ?_
                refine lv_istore (lv' := [(4, .int 0), (0, .ref (o 0)), (1, .int b), (2, .int st.1)]) hx hb dX4_passes_142 hl (by decide) rfl (fun ls hl => ?_)
                have loop144 : ∀ (k : Nat) (t : Nat), t ≤ 48 → 48 < t + k → ∀ (H : Heap) (locs : List Loc) (ls : Array Slot), fz_W g A s (MW g o (mzV st.2 t)) H locs → lv_has ls 5 [(0, .ref (o 0)), (1, .int b), (2, .int st.1), (4, .int (nI t))] → W p l e (fz_R 2 0 0 49) s m args below meth c H locs 0 0 (MQ below (fz_Q g (MW g o (mpV m0 b)) (some (.int (b - (mpS m0 b).1))) A) args s 0 0 A) (F0 m 144 ls []) := by
                  intro k
                  induction k with
                  | zero =>
                    intro t ht hk
                    omega
                  | succ k ih144 =>
                    intro t ht hk H locs ls hW hl
                    refine lv_iload hx hb dX4_passes_144 (lv_at hl 3 rfl) ?_
                    refine lv_bipush (v := 48) hx hb dX4_passes_146 (by decide) ?_
                    refine lv_icmp_ge (tgt := 177) hx hb dX4_passes_148 (by decide) (fun c148 => ?_) (fun c148 => ?_)
                    · skip
                      have h148 : 48 ≤ t := (nI_leI (a := 48) (b := t) (by omega) (by omega)).mp c148
                      have e148 : t = 48 := by omega
                      have hl := lv_sub hl [0, 1, 2] rfl
                      have hl : lv_has ls 5 [(0, .ref (o 0)), (1, .int b), (2, .int st.1)] := hl
                      refine lv_iload_n hx hb dX4_passes_177 rfl (lv_at hl 1 rfl) ?_
                      refine lv_iload_n hx hb dX4_passes_178 rfl (lv_at hl 2 rfl) ?_
                      refine lv_isub hx hb dX4_passes_179 ?_
                      exact fz_ri X (fz_cast (by unfold mpV; rw [hfin, e148]) hW) (by rw [hfin]) dX4_passes_180
                    · skip
                      have h148 : t < 48 := Nat.not_le.mp (fun z => c148 ((nI_leI (a := 48) (b := t) (by omega) (by omega)).mpr z))
                      refine lv_aload_n hx hb dX4_passes_151 rfl (lv_at hl 0 rfl) ?_
                      refine gf_X4_19 X hW 0 rfl rfl dX4_passes_152 ?_
                      refine lv_iload hx hb dX4_passes_155 (lv_at hl 3 rfl) ?_
                      refine lv_aload_n hx hb dX4_passes_157 rfl (lv_at hl 0 rfl) ?_
                      refine gf_X4_19 X hW 0 rfl rfl dX4_passes_158 ?_
                      refine lv_iload hx hb dX4_passes_161 (lv_at hl 3 rfl) ?_
                      refine fz_il X hW 4 (t) rfl rfl (by omega) (by decide) dX4_passes_163 ?_
                      refine lv_iconst (v := 1) hx hb dX4_passes_164 (by decide) ?_
                      refine lv_ishl hx hb dX4_passes_165 ?_
                      refine lv_sipush (v := 255) hx hb dX4_passes_166 (by decide) ?_
                      refine lv_iand hx hb dX4_passes_169 ?_
                      refine fz_is X hW 4 (t) rfl rfl (by omega) (by decide) dX4_passes_170 (fun H locs hW => ?_)
                      refine lv_iinc (v := nI (t + 1)) (lv' := [(4, .int (nI (t + 1))), (0, .ref (o 0)), (1, .int b), (2, .int st.1)]) hx hb dX4_passes_171 hl (k := 3) rfl (nI_1 _) (by decide) rfl (fun ls hl => ?_)
                      refine lv_goto (tgt := 144) hx hb dX4_passes_174 (by decide) ?_
                      exact ih144 (t + 1) (by omega) (by omega) _ _ _ (fz_cast (congrArg (fun z => MW g o (MV.mk9 st.2.thr (st.2.time + 1) st.2.look st.2.near st.2.far st.2.since (z) st.2.moves st.2.mF st.2.mT st.2.mW st.2.mH st.2.pics st.2.known st.2.sent st.2.used st.2.block st.2.done st.2.worth st.2.kept st.2.at_)) (fz_to_s (fun t => st.2.ch t <<< ((1 : Int32) &&& 31) &&& 255) st.2.ch t (by show fz_to (fun t => st.2.ch t <<< ((1 : Int32) &&& 31) &&& 255) st.2.ch t t <<< ((1 : Int32) &&& 31) &&& 255 = _; rw [fz_to_ge (Nat.le_refl _)]))) hW) (lv_sub hl [1, 2, 3, 0] rfl)
                have hW : fz_W g A s (MW g o (st.2.timeS (st.2.time + 1))) H locs := hW
                exact loop144 49 0 (by omega) (by omega) _ _ _ (fz_cast (congrArg (MW g o) (mzV_0 st.2).symm) hW) (lv_sub hl [1, 2, 3, 0] rfl)
              · skip
                have c104 : ¬ mnX st.2 = -1 := c104
                obtain ⟨j, hj1, hj2, hj3⟩ : ∃ j, j < 48 ∧ mnX st.2 = nI j ∧ st.2.done j = 0 := by
                  rcases mnF_in st.2.done st.2.worth 48 with q | q
                  · exact absurd q c104
                  · exact q
                have hj6 : (mnX st.2).toNatClampNeg = j := by rw [hj2]; exact nI_clamp (by omega)
                have hj4 : mnX st.2 = nI (mnX st.2).toNatClampNeg := by rw [hj6]; exact hj2
                have hj5 : (mnX st.2).toNatClampNeg < 48 := by rw [hj6]; exact hj1
                refine lv_iload_n hx hb dX4_passes_107 rfl (lv_at hl 2 rfl) ?_
                refine lv_aload_n hx hb dX4_passes_108 rfl (lv_at hl 0 rfl) ?_
                refine lv_iload_n hx hb dX4_passes_109 rfl (lv_at hl 3 rfl) ?_
                refine lv_iload_n hx hb dX4_passes_110 rfl (lv_at hl 2 rfl) ?_
                refine fz_cVi X hW (c_X4_sendsX l g o st.2 (mnX st.2) st.1 hj4 hj5 hpc) lk_X4_117 (ci := 4) (q0 := 0) rfl rfl rfl rfl ⟨Nat.le_of_ble_eq_true rfl, Nat.le_of_ble_eq_true rfl⟩ hl rfl (Nat.le_of_ble_eq_true rfl) dX4_passes_111 ⟨Nat.le_refl _, Nat.le_refl _⟩ (fun H locs hW => ?_)
                refine lv_isub hx hb dX4_passes_114 ?_
                refine lv_istore_n (lv' := [(2, .int (st.1 - ((msR st.2 (mnX st.2).toNatClampNeg st.1).1))), (0, .ref (o 0)), (1, .int b), (3, .int (mnX st.2))]) hx hb dX4_passes_115 rfl hl (by decide) rfl (fun ls hl => ?_)
                refine lv_aload_n hx hb dX4_passes_116 rfl (lv_at hl 1 rfl) ?_
                refine gf_X4_43 X hW 0 rfl rfl dX4_passes_117 ?_
                refine lv_iload_n hx hb dX4_passes_120 rfl (lv_at hl 3 rfl) ?_
                refine lv_iconst (v := 1) hx hb dX4_passes_121 (by decide) ?_
                refine fz_zs X hW 12 ((mnX st.2).toNatClampNeg) rfl hj4 hj5 (by decide) rfl dX4_passes_122 (fun H locs hW => ?_)
                refine lv_aload_n hx hb dX4_passes_123 rfl (lv_at hl 1 rfl) ?_
                refine fz_cVi X hW (c_X4_nextTile l g o (mlS st).2) lk_X4_114 (ci := 4) (q0 := 0) rfl rfl rfl rfl ⟨Nat.le_of_ble_eq_true rfl, Nat.le_of_ble_eq_true rfl⟩ hl rfl (Nat.le_of_ble_eq_true rfl) dX4_passes_124 ⟨Nat.le_refl _, Nat.le_refl _⟩ (fun H locs hW => ?_)
                refine lv_istore_n (lv' := [(3, .int (mnX (mlS st).2)), (2, .int (st.1 - ((msR st.2 (mnX st.2).toNatClampNeg st.1).1))), (0, .ref (o 0)), (1, .int b)]) hx hb dX4_passes_127 rfl hl (by decide) rfl (fun ls hl => ?_)
                refine lv_goto (tgt := 102) hx hb dX4_passes_128 (by decide) ?_
                obtain ⟨g1, g2, g3⟩ := msR_keep st.2 (mnX st.2).toNatClampNeg st.1 hpc
                have gu := mun_u st.2.done j hj3 48
                rw [if_pos hj1] at gu
                exact ih102 (mlS st) (by show mun (upd (msR st.2 (mnX st.2).toNatClampNeg st.1).2.done (mnX st.2).toNatClampNeg 1) 48 < k; rw [g1, hj6]; omega) (he.trans (if_neg c104)) g3 _ _ _ (fz_cast (rfl) hW) (lv_sub hl [2, 3, 1, 0] rfl)
          exact loop102 49 (x, mdW u 48) (Nat.lt_succ_of_le (mun_le _ _)) (by unfold mpS; rw [hu]) hok2.2.1 _ _ _ (fz_cast (rfl) hW) (lv_sub hl [1, 2, 3, 0] rfl)
        · skip
          have h29 : t < 48 := Nat.not_le.mp (fun z => c29 ((nI_leI (a := 48) (b := t) (by omega) (by omega)).mpr z))
          refine lv_aload_n hx hb dX4_passes_32 rfl (lv_at hl 0 rfl) ?_
          refine gf_X4_43 X hW 0 rfl rfl dX4_passes_33 ?_
          refine lv_iload_n hx hb dX4_passes_36 rfl (lv_at hl 3 rfl) ?_
          refine lv_aload_n hx hb dX4_passes_37 rfl (lv_at hl 0 rfl) ?_
          refine gf_X4_16 X hW 0 rfl rfl dX4_passes_38 ?_
          refine lv_iload_n hx hb dX4_passes_41 rfl (lv_at hl 3 rfl) ?_
          refine fz_il X hW 3 (t) rfl rfl (by omega) (by decide) dX4_passes_42 ?_
          refine lv_iconst (v := (-1)) hx hb dX4_passes_43 (by decide) ?_
          have join59 : ∀ (z : Int32), z = mdF u t → ∀ (ls : Array Slot), lv_has ls 5 [(0, .ref (o 0)), (1, .int b), (2, .int x), (3, .int (nI t))] → W p l e (fz_R 2 0 0 49) s m args below meth c H locs 0 0 (MQ below (fz_Q g (MW g o (mpV m0 b)) (some (.int (b - (mpS m0 b).1))) A) args s 0 0 A) (F0 m 59 ls [.int z, .int (nI t), .ref (o 12)]) := by
            intro z hz ls hl
            subst hz
            refine fz_zs X hW 12 (t) rfl rfl (by omega) (by decide) (nar01 (b01_01 _)) dX4_passes_59 (fun H locs hW => ?_)
            refine lv_aload_n hx hb dX4_passes_60 rfl (lv_at hl 0 rfl) ?_
            refine gf_X4_47 X hW 0 rfl rfl dX4_passes_61 ?_
            refine lv_iload_n hx hb dX4_passes_64 rfl (lv_at hl 3 rfl) ?_
            refine lv_aload_n hx hb dX4_passes_65 rfl (lv_at hl 0 rfl) ?_
            refine gf_X4_65 X hW 0 rfl rfl dX4_passes_66 ?_
            refine lv_aload_n hx hb dX4_passes_69 rfl (lv_at hl 0 rfl) ?_
            refine gf_X4_16 X hW 0 rfl rfl dX4_passes_70 ?_
            refine lv_iload_n hx hb dX4_passes_73 rfl (lv_at hl 3 rfl) ?_
            refine fz_il X hW 3 (t) rfl rfl (by omega) (by decide) dX4_passes_74 ?_
            refine lv_isub hx hb dX4_passes_75 ?_
            refine lv_aload_n hx hb dX4_passes_76 rfl (lv_at hl 0 rfl) ?_
            refine lv_iload_n hx hb dX4_passes_77 rfl (lv_at hl 3 rfl) ?_
            refine fz_cVi X hW (c_X4_isLookedAt l g o (MV.mk9 u.thr u.time u.look u.near u.far u.since u.ch u.moves u.mF u.mT u.mW u.mH u.pics u.known u.sent u.used u.block (upd (fz_to (mdF u) u.done t) t (mdF u t)) (fz_to (mwF u) u.worth t) u.kept u.at_) t) lk_X4_111 (ci := 4) (q0 := 0) rfl rfl rfl rfl ⟨Nat.le_of_ble_eq_true rfl, Nat.le_of_ble_eq_true rfl⟩ hl rfl (Nat.le_of_ble_eq_true rfl) dX4_passes_78 ⟨Nat.le_refl _, Nat.le_refl _⟩ (fun H locs hW => ?_)
            have join89 : ∀ (z : Int32), z = (if mlI u.look t = 0 then 0 else 5) → ∀ (ls : Array Slot), lv_has ls 5 [(0, .ref (o 0)), (1, .int b), (2, .int x), (3, .int (nI t))] → W p l e (fz_R 2 0 0 49) s m args below meth c H locs 0 0 (MQ below (fz_Q g (MW g o (mpV m0 b)) (some (.int (b - (mpS m0 b).1))) A) args s 0 0 A) (F0 m 89 ls [.int z, .int (u.time - (u.since t)), .int (nI t), .ref (o 13)]) := by
              intro z hz ls hl
              refine lv_iadd hx hb dX4_passes_89 ?_
              refine fz_is X hW 13 (t) rfl rfl (by omega) (by decide) dX4_passes_90 (fun H locs hW => ?_)
              refine lv_iinc (v := nI (t + 1)) (lv' := [(3, .int (nI (t + 1))), (0, .ref (o 0)), (1, .int b), (2, .int x)]) hx hb dX4_passes_91 hl (k := 3) rfl (nI_1 _) (by decide) rfl (fun ls hl => ?_)
              refine lv_goto (tgt := 26) hx hb dX4_passes_94 (by decide) ?_
              exact ih26 (t + 1) (by omega) (by omega) _ _ _ (fz_cast (congrArg (MW g o) (mdW_s u t (mdF u t) (u.time - u.since t + z) rfl (by rw [hz]; rfl))) hW) (lv_sub hl [1, 2, 3, 0] rfl)
            refine lv_if_eq (tgt := 88) hx hb dX4_passes_81 (by decide) (fun c81 => ?_) (fun c81 => ?_)
            · skip
              refine lv_iconst (v := 0) hx hb dX4_passes_88 (by decide) ?_
              exact join89 _ (if_pos c81).symm _ (lv_sub hl [0, 1, 2, 3] rfl)
            · skip
              refine lv_iconst (v := 5) hx hb dX4_passes_84 (by decide) ?_
              refine lv_goto (tgt := 89) hx hb dX4_passes_85 (by decide) ?_
              exact join89 _ (if_neg c81).symm _ (lv_sub hl [0, 1, 2, 3] rfl)
          refine lv_icmp_eq (tgt := 54) hx hb dX4_passes_44 (by decide) (fun c44 => ?_) (fun c44 => ?_)
          · skip
            have c44 : u.since t = -1 := c44
            refine lv_iconst (v := 1) hx hb dX4_passes_54 (by decide) ?_
            refine lv_goto (tgt := 59) hx hb dX4_passes_55 (by decide) ?_
            exact join59 _ (b01_t (Or.inl c44)).symm _ (lv_sub hl [0, 1, 2, 3] rfl)
          · skip
            have c44 : ¬ u.since t = -1 := c44
            refine lv_aload_n hx hb dX4_passes_47 rfl (lv_at hl 0 rfl) ?_
            refine gf_X4_88 X hW 0 rfl rfl dX4_passes_48 ?_
            refine lv_if_le (tgt := 58) hx hb dX4_passes_51 (by decide) (fun c51 => ?_) (fun c51 => ?_)
            · skip
              have h51 : u.moves ≤ 0 := (nI_leI (a := u.moves) (b := 0) (by have := hok2.1; omega) (by omega)).mp c51
              refine lv_iconst (v := 0) hx hb dX4_passes_58 (by decide) ?_
              exact join59 _ (b01_f (fun q => q.elim c44 (fun r => absurd r (by omega)))).symm _ (lv_sub hl [0, 1, 2, 3] rfl)
            · skip
              have h51 : 0 < u.moves := Nat.not_le.mp (fun z => c51 ((nI_leI (a := u.moves) (b := 0) (by have := hok2.1; omega) (by omega)).mpr z))
              refine lv_iconst (v := 1) hx hb dX4_passes_54 (by decide) ?_
              refine lv_goto (tgt := 59) hx hb dX4_passes_55 (by decide) ?_
              exact join59 _ (b01_t (Or.inr h51)).symm _ (lv_sub hl [0, 1, 2, 3] rfl)
    exact loop26 49 0 (by omega) (by omega) _ _ _ (fz_cast (congrArg (MW g o) (mdW_0 u).symm) hW) (lv_sub hl [1, 2, 3, 0] rfl)
  refine lv_iload_n hx hb dX4_passes_0 rfl (lv_at hl 1 rfl) ?_
  refine lv_istore_n (lv' := [(2, .int b), (0, .ref (o 0)), (1, .int b)]) hx hb dX4_passes_1 rfl hl (by decide) rfl (fun ls hl => ?_)
  have loop2 : ∀ (k : Nat) (u : MV) (x : Int32), u.moves < k → mpT m0 b m0.moves = mpT u x u.moves → MOKs u → ∀ (H : Heap) (locs : List Loc) (ls : Array Slot), fz_W g A s (MW g o u) H locs → lv_has ls 5 [(0, .ref (o 0)), (1, .int b), (2, .int x)] → W p l e (fz_R 2 0 0 49) s m args below meth c H locs 0 0 (MQ below (fz_Q g (MW g o (mpV m0 b)) (some (.int (b - (mpS m0 b).1))) A) args s 0 0 A) (F0 m 2 ls []) := by
    intro k
    induction k with
    | zero =>
      intro u x hk
      exact absurd hk (Nat.not_lt_zero _)
    | succ k ih2 =>
      intro u x hk he hok2 H locs ls hW hl
      refine lv_aload_n hx hb dX4_passes_2 rfl (lv_at hl 0 rfl) ?_
      refine gf_X4_88 X hW 0 rfl rfl dX4_passes_3 ?_
      refine lv_if_le (tgt := 24) hx hb dX4_passes_6 (by decide) (fun c6 => ?_) (fun c6 => ?_)
      · skip
        have h6 : u.moves = 0 := by
          have k1 := hok2.1
          have := (nI_leI (a := u.moves) (b := 0) (by omega) (by omega)).mp c6
          omega
        exact join24 u x (by rw [he, h6]; rfl) hok2 _ _ _ (fz_cast (rfl) hW) (lv_sub hl [0, 1, 2] rfl)
      · skip
        have h6 : 1 ≤ u.moves := by
          have k1 := hok2.1
          have : ¬ u.moves ≤ 0 := fun z => c6 ((nI_leI (a := u.moves) (b := 0) (by omega) (by omega)).mpr z)
          omega
        refine lv_iload_n hx hb dX4_passes_9 rfl (lv_at hl 2 rfl) ?_
        refine lv_iconst (v := 2) hx hb dX4_passes_10 (by decide) ?_
        refine lv_icmp_lt (tgt := 24) hx hb dX4_passes_11 (by decide) (fun c11 => ?_) (fun c11 => ?_)
        · skip
          exact join24 u x (by rw [he, show u.moves = (u.moves - 1) + 1 by omega]; exact if_pos c11) hok2 _ _ _ (fz_cast (rfl) hW) (lv_sub hl [0, 1, 2] rfl)
        · skip
          refine lv_aload_n hx hb dX4_passes_14 rfl (lv_at hl 0 rfl) ?_
          refine fz_cVv X hW (c_X4_tellsW l g o u hok2 h6) lk_X4_108 (ci := 4) (q0 := 0) rfl rfl rfl rfl ⟨Nat.le_of_ble_eq_true rfl, Nat.le_of_ble_eq_true rfl⟩ hl rfl (Nat.le_of_ble_eq_true rfl) dX4_passes_15 ⟨Nat.le_refl _, Nat.le_refl _⟩ (fun H locs hW => ?_)
          refine lv_iinc (v := x + (-2)) (lv' := [(2, .int (x + (-2))), (0, .ref (o 0)), (1, .int b)]) hx hb dX4_passes_18 hl (k := 2) rfl rfl (by decide) rfl (fun ls hl => ?_)
          refine lv_goto (tgt := 2) hx hb dX4_passes_21 (by decide) ?_
          obtain ⟨kt, km⟩ := MOKs_tell hok2 (hdJ u) h6
          exact ih2 (mtW u) (x + (-2)) (by show (mtV u (hdJ u)).moves < k; omega) (by rw [he, show u.moves = (u.moves - 1) + 1 by omega, show (mtW u).moves = u.moves - 1 from km]; exact if_neg c11) kt _ _ _ (fz_cast (rfl) hW) (lv_sub hl [1, 2, 0] rfl)
  exact loop2 (m0.moves + 1) m0 b (Nat.lt_succ_self _) rfl hok _ _ _ (fz_cast (rfl) hW) (lv_sub hl [1, 2, 0] rfl)
