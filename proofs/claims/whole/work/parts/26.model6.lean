set_option maxHeartbeats 4000000 in
set_option maxRecDepth 100000 in
theorem c_X4_sends (l : Launch) (g : GG) (o : Nat → Nat) (m0 : MV) (t : Nat) (left : Int32) (ht : t < 48) (hp : m0.pics ≤ 8) : fz_C l g yX4_sends cX4_sends 7 (some .int) 1 23 [.ref (o 0), .int (nI t), .int left] (MW g o m0) (MW g o (msR m0 t left).2) (some (.int (msR m0 t left).1)) := by
  refine fz_C.of (by decide) (Nat.le_of_ble_eq_true rfl) ?_
  intro p e s m args below meth c A ls X hW hl
  have hx := X.1
  have hb := X.2.1
  have hl : lv_has ls 7 [(0, .ref (o 0)), (1, .int (nI t)), (2, .int left)] := hl
  have X : fz_X p s m meth c RX4 cX4_sends 7 (some .int) g A := X
  have hW : fz_W g A s (MW g o m0) s.heap [] := hW
  refine lv_sipush (v := 1000) hx hb dX4_sends_0 (by decide) ?_
  refine lv_aload_n hx hb dX4_sends_3 rfl (lv_at hl 0 rfl) ?_
  refine gf_X4_7 X hW 0 rfl rfl dX4_sends_4 ?_
  refine lv_iload_n hx hb dX4_sends_7 rfl (lv_at hl 1 rfl) ?_
  refine fz_il X hW 1 (t) rfl rfl (by omega) (by decide) dX4_sends_8 ?_
  refine lv_bipush (v := 16) hx hb dX4_sends_9 (by decide) ?_
  refine lv_idiv hx hb dX4_sends_11 (by decide) ?_
  refine lv_iadd hx hb dX4_sends_12 ?_
  refine lv_istore_n (lv' := [(3, .int (1000 + ((m0.near t) / 16))), (0, .ref (o 0)), (1, .int (nI t)), (2, .int left)]) hx hb dX4_sends_13 rfl hl (by decide) rfl (fun ls hl => ?_)
  refine lv_aload_n hx hb dX4_sends_14 rfl (lv_at hl 1 rfl) ?_
  refine lv_aload_n hx hb dX4_sends_15 rfl (lv_at hl 1 rfl) ?_
  refine gf_X4_7 X hW 0 rfl rfl dX4_sends_16 ?_
  refine lv_iload_n hx hb dX4_sends_19 rfl (lv_at hl 2 rfl) ?_
  refine fz_il X hW 1 (t) rfl rfl (by omega) (by decide) dX4_sends_20 ?_
  refine fz_cVi X hW (c_X4_isKnown l g o m0 (m0.near t) hp) lk_X4_97 (ci := 4) (q0 := 0) rfl rfl rfl rfl ⟨Nat.le_of_ble_eq_true rfl, Nat.le_of_ble_eq_true rfl⟩ hl rfl (Nat.le_of_ble_eq_true rfl) dX4_sends_21 ⟨Nat.le_refl _, Nat.le_refl _⟩ (fun H locs hW => ?_)
  refine lv_if_ne (tgt := 31) hx hb dX4_sends_24 (by decide) (fun c24 => ?_) (fun c24 => ?_)
  · skip
    refine lv_iconst (v := 0) hx hb dX4_sends_31 (by decide) ?_
    refine lv_istore (lv' := [(4, .int 0), (3, .int (1000 + ((m0.near t) / 16))), (0, .ref (o 0)), (1, .int (nI t)), (2, .int left)]) hx hb dX4_sends_32 hl (by decide) rfl (fun ls hl => ?_)
    refine lv_iload hx hb dX4_sends_34 (lv_at hl 0 rfl) ?_
    refine lv_if_eq (tgt := 52) hx hb dX4_sends_36 (by decide) (fun c36 => ?_) (fun c36 => ?_)
    · skip
      refine lv_iconst (v := 0) hx hb dX4_sends_52 (by decide) ?_
      refine lv_istore (lv' := [(5, .int 0), (4, .int 0), (3, .int (1000 + ((m0.near t) / 16))), (0, .ref (o 0)), (1, .int (nI t)), (2, .int left)]) hx hb dX4_sends_53 hl (by decide) rfl (fun ls hl => ?_)
      refine lv_iload hx hb dX4_sends_55 (lv_at hl 1 rfl) ?_
      refine lv_if_ne (tgt := 64) hx hb dX4_sends_57 (by decide) (fun c57 => ?_) (fun c57 => ?_)
      · first | exact absurd c57 (by decide) | exact absurd (by decide) c57
      · skip
        refine lv_iconst (v := 1) hx hb dX4_sends_60 (by decide) ?_
        refine lv_goto (tgt := 87) hx hb dX4_sends_61 (by decide) ?_
        refine lv_istore (lv' := [(6, .int 1), (5, .int 0), (4, .int 0), (3, .int (1000 + ((m0.near t) / 16))), (0, .ref (o 0)), (1, .int (nI t)), (2, .int left)]) hx hb dX4_sends_87 hl (by decide) rfl (fun ls hl => ?_)
        refine lv_iload hx hb dX4_sends_89 (lv_at hl 0 rfl) ?_
        refine lv_iload_n hx hb dX4_sends_91 rfl (lv_at hl 6 rfl) ?_
        refine lv_icmp_gt (tgt := 110) hx hb dX4_sends_92 (by decide) (fun c92 => ?_) (fun c92 => ?_)
        · skip
          refine lv_iconst (v := 0) hx hb dX4_sends_110 (by decide) ?_
          exact fz_ri X (fz_cast (by unfold msR mpR; rw [if_neg c24, if_pos c92]) hW) (by unfold msR mpR; rw [if_neg c24, if_pos c92]) dX4_sends_111
        · skip
          refine lv_iload hx hb dX4_sends_95 (lv_at hl 1 rfl) ?_
          refine lv_if_eq (tgt := 112) hx hb dX4_sends_97 (by decide) (fun c97 => ?_) (fun c97 => ?_)
          · skip
            refine lv_aload_n hx hb dX4_sends_112 rfl (lv_at hl 4 rfl) ?_
            refine gf_X4_13 X hW 0 rfl rfl dX4_sends_113 ?_
            refine lv_iload_n hx hb dX4_sends_116 rfl (lv_at hl 5 rfl) ?_
            refine lv_iload hx hb dX4_sends_117 (lv_at hl 1 rfl) ?_
            refine lv_if_eq (tgt := 126) hx hb dX4_sends_119 (by decide) (fun c119 => ?_) (fun c119 => ?_)
            · skip
              refine lv_aload_n hx hb dX4_sends_126 rfl (lv_at hl 4 rfl) ?_
              refine gf_X4_7 X hW 0 rfl rfl dX4_sends_127 ?_
              refine lv_iload_n hx hb dX4_sends_130 rfl (lv_at hl 5 rfl) ?_
              refine fz_il X hW 1 (t) rfl rfl (by omega) (by decide) dX4_sends_131 ?_
              refine fz_is X hW 2 (t) rfl rfl (by omega) (by decide) dX4_sends_132 (fun H locs hW => ?_)
              refine lv_iload hx hb dX4_sends_133 (lv_at hl 1 rfl) ?_
              refine lv_if_ne (tgt := 155) hx hb dX4_sends_135 (by decide) (fun c135 => ?_) (fun c135 => ?_)
              · first | exact absurd c135 (by decide) | exact absurd (by decide) c135
              · skip
                refine lv_aload_n hx hb dX4_sends_138 rfl (lv_at hl 4 rfl) ?_
                refine lv_aload_n hx hb dX4_sends_139 rfl (lv_at hl 4 rfl) ?_
                refine gf_X4_7 X hW 0 rfl rfl dX4_sends_140 ?_
                refine lv_iload_n hx hb dX4_sends_143 rfl (lv_at hl 5 rfl) ?_
                refine fz_il X hW 1 (t) rfl rfl (by omega) (by decide) dX4_sends_144 ?_
                refine fz_cVv X hW (c_X4_meets l g o (m0.farS (upd m0.far t (m0.near t))) (m0.near t) hp) lk_X4_105 (ci := 4) (q0 := 0) rfl rfl rfl rfl ⟨Nat.le_of_ble_eq_true rfl, Nat.le_of_ble_eq_true rfl⟩ hl rfl (Nat.le_of_ble_eq_true rfl) dX4_sends_145 ⟨Nat.le_refl _, Nat.le_refl _⟩ (fun H locs hW => ?_)
                have hW : fz_W g A s (MW g o (MV.mk9 m0.thr m0.time m0.look m0.near (upd m0.far t (m0.near t)) m0.since m0.ch m0.moves m0.mF m0.mT m0.mW m0.mH (meC m0 (m0.near t)) (upd (shF m0.known (meG m0 (m0.near t)) 0) 0 (m0.near t)) m0.sent m0.used m0.block m0.done m0.worth m0.kept m0.at_)) H locs := hW
                refine lv_aload_n hx hb dX4_sends_148 rfl (lv_at hl 4 rfl) ?_
                refine gf_X4_16 X hW 0 rfl rfl dX4_sends_149 ?_
                refine lv_iload_n hx hb dX4_sends_152 rfl (lv_at hl 5 rfl) ?_
                refine lv_iconst (v := (-1)) hx hb dX4_sends_153 (by decide) ?_
                refine fz_is X hW 3 (t) rfl rfl (by omega) (by decide) dX4_sends_154 (fun H locs hW => ?_)
                refine lv_aload_n hx hb dX4_sends_155 rfl (lv_at hl 4 rfl) ?_
                refine gf_X4_37 X hW 0 rfl rfl dX4_sends_156 ?_
                refine lv_iload hx hb dX4_sends_159 (lv_at hl 2 rfl) ?_
                refine lv_if_ne (tgt := 168) hx hb dX4_sends_161 (by decide) (fun c161 => ?_) (fun c161 => ?_)
                · first | exact absurd c161 (by decide) | exact absurd (by decide) c161
                · skip
                  refine lv_iconst (v := 1) hx hb dX4_sends_164 (by decide) ?_
                  refine lv_goto (tgt := 178) hx hb dX4_sends_165 (by decide) ?_
                  refine lv_dup2_11 hx hb dX4_sends_178 rfl rfl ?_
                  refine fz_il X hW 10 (1) rfl rfl (by omega) (by decide) dX4_sends_179 ?_
                  refine lv_iconst (v := 1) hx hb dX4_sends_180 (by decide) ?_
                  refine lv_iadd hx hb dX4_sends_181 ?_
                  refine fz_is X hW 10 (1) rfl rfl (by omega) (by decide) dX4_sends_182 (fun H locs hW => ?_)
                  refine lv_iload hx hb dX4_sends_183 (lv_at hl 0 rfl) ?_
                  exact fz_ri X (fz_cast (by unfold msR mpR; rw [if_neg c24, if_neg c92]; rfl) hW) (by unfold msR mpR; rw [if_neg c24, if_neg c92]) dX4_sends_185
            · first | exact absurd c119 (by decide) | exact absurd (by decide) c119
          · first | exact absurd c97 (by decide) | exact absurd (by decide) c97
    · first | exact absurd c36 (by decide) | exact absurd (by decide) c36
  · skip
    refine lv_iconst (v := 1) hx hb dX4_sends_27 (by decide) ?_
    refine lv_goto (tgt := 32) hx hb dX4_sends_28 (by decide) ?_
    refine lv_istore (lv' := [(4, .int 1), (3, .int (1000 + ((m0.near t) / 16))), (0, .ref (o 0)), (1, .int (nI t)), (2, .int left)]) hx hb dX4_sends_32 hl (by decide) rfl (fun ls hl => ?_)
    refine lv_iload hx hb dX4_sends_34 (lv_at hl 0 rfl) ?_
    refine lv_if_eq (tgt := 52) hx hb dX4_sends_36 (by decide) (fun c36 => ?_) (fun c36 => ?_)
    · first | exact absurd c36 (by decide) | exact absurd (by decide) c36
    · skip
      refine lv_aload_n hx hb dX4_sends_39 rfl (lv_at hl 2 rfl) ?_
      refine lv_iload_n hx hb dX4_sends_40 rfl (lv_at hl 3 rfl) ?_
      refine fz_cVi X hW (c_X4_kindOf l g o m0 t ht) lk_X4_101 (ci := 4) (q0 := 0) rfl rfl rfl rfl ⟨Nat.le_of_ble_eq_true rfl, Nat.le_of_ble_eq_true rfl⟩ hl rfl (Nat.le_of_ble_eq_true rfl) dX4_sends_41 ⟨Nat.le_refl _, Nat.le_refl _⟩ (fun H locs hW => ?_)
      refine lv_iconst (v := 2) hx hb dX4_sends_44 (by decide) ?_
      refine lv_icmp_ne (tgt := 52) hx hb dX4_sends_45 (by decide) (fun c45 => ?_) (fun c45 => ?_)
      · skip
        refine lv_iconst (v := 0) hx hb dX4_sends_52 (by decide) ?_
        refine lv_istore (lv' := [(5, .int 0), (4, .int 1), (3, .int (1000 + ((m0.near t) / 16))), (0, .ref (o 0)), (1, .int (nI t)), (2, .int left)]) hx hb dX4_sends_53 hl (by decide) rfl (fun ls hl => ?_)
        refine lv_iload hx hb dX4_sends_55 (lv_at hl 1 rfl) ?_
        refine lv_if_ne (tgt := 64) hx hb dX4_sends_57 (by decide) (fun c57 => ?_) (fun c57 => ?_)
        · skip
          refine lv_iload hx hb dX4_sends_64 (lv_at hl 0 rfl) ?_
          refine lv_if_eq (tgt := 73) hx hb dX4_sends_66 (by decide) (fun c66 => ?_) (fun c66 => ?_)
          · skip
            refine lv_aload_n hx hb dX4_sends_73 rfl (lv_at hl 3 rfl) ?_
            refine lv_iload_n hx hb dX4_sends_74 rfl (lv_at hl 4 rfl) ?_
            refine fz_cVi X hW (c_X4_kindOf l g o m0 t ht) lk_X4_101 (ci := 4) (q0 := 0) rfl rfl rfl rfl ⟨Nat.le_of_ble_eq_true rfl, Nat.le_of_ble_eq_true rfl⟩ hl rfl (Nat.le_of_ble_eq_true rfl) dX4_sends_75 ⟨Nat.le_refl _, Nat.le_refl _⟩ (fun H locs hW => ?_)
            refine lv_if_ne (tgt := 85) hx hb dX4_sends_78 (by decide) (fun c78 => ?_) (fun c78 => ?_)
            · skip
              refine lv_bipush (v := 6) hx hb dX4_sends_85 (by decide) ?_
              refine lv_istore (lv' := [(6, .int 6), (5, .int 0), (4, .int 1), (3, .int (1000 + ((m0.near t) / 16))), (0, .ref (o 0)), (1, .int (nI t)), (2, .int left)]) hx hb dX4_sends_87 hl (by decide) rfl (fun ls hl => ?_)
              refine lv_iload hx hb dX4_sends_89 (lv_at hl 0 rfl) ?_
              refine lv_iload_n hx hb dX4_sends_91 rfl (lv_at hl 6 rfl) ?_
              refine lv_icmp_gt (tgt := 110) hx hb dX4_sends_92 (by decide) (fun c92 => ?_) (fun c92 => ?_)
              · skip
                refine lv_iconst (v := 0) hx hb dX4_sends_110 (by decide) ?_
                exact fz_ri X (fz_cast (by unfold msR mpR; rw [if_pos c24, if_neg c45, if_neg c78, if_pos c92]) hW) (by unfold msR mpR; rw [if_pos c24, if_neg c45, if_neg c78, if_pos c92]) dX4_sends_111
              · skip
                refine lv_iload hx hb dX4_sends_95 (lv_at hl 1 rfl) ?_
                refine lv_if_eq (tgt := 112) hx hb dX4_sends_97 (by decide) (fun c97 => ?_) (fun c97 => ?_)
                · skip
                  refine lv_aload_n hx hb dX4_sends_112 rfl (lv_at hl 4 rfl) ?_
                  refine gf_X4_13 X hW 0 rfl rfl dX4_sends_113 ?_
                  refine lv_iload_n hx hb dX4_sends_116 rfl (lv_at hl 5 rfl) ?_
                  refine lv_iload hx hb dX4_sends_117 (lv_at hl 1 rfl) ?_
                  refine lv_if_eq (tgt := 126) hx hb dX4_sends_119 (by decide) (fun c119 => ?_) (fun c119 => ?_)
                  · skip
                    refine lv_aload_n hx hb dX4_sends_126 rfl (lv_at hl 4 rfl) ?_
                    refine gf_X4_7 X hW 0 rfl rfl dX4_sends_127 ?_
                    refine lv_iload_n hx hb dX4_sends_130 rfl (lv_at hl 5 rfl) ?_
                    refine fz_il X hW 1 (t) rfl rfl (by omega) (by decide) dX4_sends_131 ?_
                    refine fz_is X hW 2 (t) rfl rfl (by omega) (by decide) dX4_sends_132 (fun H locs hW => ?_)
                    refine lv_iload hx hb dX4_sends_133 (lv_at hl 1 rfl) ?_
                    refine lv_if_ne (tgt := 155) hx hb dX4_sends_135 (by decide) (fun c135 => ?_) (fun c135 => ?_)
                    · first | exact absurd c135 (by decide) | exact absurd (by decide) c135
                    · skip
                      refine lv_aload_n hx hb dX4_sends_138 rfl (lv_at hl 4 rfl) ?_
                      refine lv_aload_n hx hb dX4_sends_139 rfl (lv_at hl 4 rfl) ?_
                      refine gf_X4_7 X hW 0 rfl rfl dX4_sends_140 ?_
                      refine lv_iload_n hx hb dX4_sends_143 rfl (lv_at hl 5 rfl) ?_
                      refine fz_il X hW 1 (t) rfl rfl (by omega) (by decide) dX4_sends_144 ?_
                      refine fz_cVv X hW (c_X4_meets l g o (m0.farS (upd m0.far t (m0.near t))) (m0.near t) hp) lk_X4_105 (ci := 4) (q0 := 0) rfl rfl rfl rfl ⟨Nat.le_of_ble_eq_true rfl, Nat.le_of_ble_eq_true rfl⟩ hl rfl (Nat.le_of_ble_eq_true rfl) dX4_sends_145 ⟨Nat.le_refl _, Nat.le_refl _⟩ (fun H locs hW => ?_)
                      have hW : fz_W g A s (MW g o (MV.mk9 m0.thr m0.time m0.look m0.near (upd m0.far t (m0.near t)) m0.since m0.ch m0.moves m0.mF m0.mT m0.mW m0.mH (meC m0 (m0.near t)) (upd (shF m0.known (meG m0 (m0.near t)) 0) 0 (m0.near t)) m0.sent m0.used m0.block m0.done m0.worth m0.kept m0.at_)) H locs := hW
                      refine lv_aload_n hx hb dX4_sends_148 rfl (lv_at hl 4 rfl) ?_
                      refine gf_X4_16 X hW 0 rfl rfl dX4_sends_149 ?_
                      refine lv_iload_n hx hb dX4_sends_152 rfl (lv_at hl 5 rfl) ?_
                      refine lv_iconst (v := (-1)) hx hb dX4_sends_153 (by decide) ?_
                      refine fz_is X hW 3 (t) rfl rfl (by omega) (by decide) dX4_sends_154 (fun H locs hW => ?_)
                      refine lv_aload_n hx hb dX4_sends_155 rfl (lv_at hl 4 rfl) ?_
                      refine gf_X4_37 X hW 0 rfl rfl dX4_sends_156 ?_
                      refine lv_iload hx hb dX4_sends_159 (lv_at hl 2 rfl) ?_
                      refine lv_if_ne (tgt := 168) hx hb dX4_sends_161 (by decide) (fun c161 => ?_) (fun c161 => ?_)
                      · skip
                        refine lv_iload hx hb dX4_sends_168 (lv_at hl 1 rfl) ?_
                        refine lv_if_eq (tgt := 177) hx hb dX4_sends_170 (by decide) (fun c170 => ?_) (fun c170 => ?_)
                        · skip
                          refine lv_iconst (v := 3) hx hb dX4_sends_177 (by decide) ?_
                          refine lv_dup2_11 hx hb dX4_sends_178 rfl rfl ?_
                          refine fz_il X hW 10 (3) rfl rfl (by omega) (by decide) dX4_sends_179 ?_
                          refine lv_iconst (v := 1) hx hb dX4_sends_180 (by decide) ?_
                          refine lv_iadd hx hb dX4_sends_181 ?_
                          refine fz_is X hW 10 (3) rfl rfl (by omega) (by decide) dX4_sends_182 (fun H locs hW => ?_)
                          refine lv_iload hx hb dX4_sends_183 (lv_at hl 0 rfl) ?_
                          exact fz_ri X (fz_cast (by unfold msR mpR; rw [if_pos c24, if_neg c45, if_neg c78, if_neg c92]; rfl) hW) (by unfold msR mpR; rw [if_pos c24, if_neg c45, if_neg c78, if_neg c92]) dX4_sends_185
                        · first | exact absurd c170 (by decide) | exact absurd (by decide) c170
                      · first | exact absurd c161 (by decide) | exact absurd (by decide) c161
                  · first | exact absurd c119 (by decide) | exact absurd (by decide) c119
                · first | exact absurd c97 (by decide) | exact absurd (by decide) c97
            · skip
              refine lv_iconst (v := 2) hx hb dX4_sends_81 (by decide) ?_
              refine lv_goto (tgt := 87) hx hb dX4_sends_82 (by decide) ?_
              refine lv_istore (lv' := [(6, .int 2), (5, .int 0), (4, .int 1), (3, .int (1000 + ((m0.near t) / 16))), (0, .ref (o 0)), (1, .int (nI t)), (2, .int left)]) hx hb dX4_sends_87 hl (by decide) rfl (fun ls hl => ?_)
              refine lv_iload hx hb dX4_sends_89 (lv_at hl 0 rfl) ?_
              refine lv_iload_n hx hb dX4_sends_91 rfl (lv_at hl 6 rfl) ?_
              refine lv_icmp_gt (tgt := 110) hx hb dX4_sends_92 (by decide) (fun c92 => ?_) (fun c92 => ?_)
              · skip
                refine lv_iconst (v := 0) hx hb dX4_sends_110 (by decide) ?_
                exact fz_ri X (fz_cast (by unfold msR mpR; rw [if_pos c24, if_neg c45, if_pos c78, if_pos c92]) hW) (by unfold msR mpR; rw [if_pos c24, if_neg c45, if_pos c78, if_pos c92]) dX4_sends_111
              · skip
                refine lv_iload hx hb dX4_sends_95 (lv_at hl 1 rfl) ?_
                refine lv_if_eq (tgt := 112) hx hb dX4_sends_97 (by decide) (fun c97 => ?_) (fun c97 => ?_)
                · skip
                  refine lv_aload_n hx hb dX4_sends_112 rfl (lv_at hl 4 rfl) ?_
                  refine gf_X4_13 X hW 0 rfl rfl dX4_sends_113 ?_
                  refine lv_iload_n hx hb dX4_sends_116 rfl (lv_at hl 5 rfl) ?_
                  refine lv_iload hx hb dX4_sends_117 (lv_at hl 1 rfl) ?_
                  refine lv_if_eq (tgt := 126) hx hb dX4_sends_119 (by decide) (fun c119 => ?_) (fun c119 => ?_)
                  · skip
                    refine lv_aload_n hx hb dX4_sends_126 rfl (lv_at hl 4 rfl) ?_
                    refine gf_X4_7 X hW 0 rfl rfl dX4_sends_127 ?_
                    refine lv_iload_n hx hb dX4_sends_130 rfl (lv_at hl 5 rfl) ?_
                    refine fz_il X hW 1 (t) rfl rfl (by omega) (by decide) dX4_sends_131 ?_
                    refine fz_is X hW 2 (t) rfl rfl (by omega) (by decide) dX4_sends_132 (fun H locs hW => ?_)
                    refine lv_iload hx hb dX4_sends_133 (lv_at hl 1 rfl) ?_
                    refine lv_if_ne (tgt := 155) hx hb dX4_sends_135 (by decide) (fun c135 => ?_) (fun c135 => ?_)
                    · first | exact absurd c135 (by decide) | exact absurd (by decide) c135
                    · skip
                      refine lv_aload_n hx hb dX4_sends_138 rfl (lv_at hl 4 rfl) ?_
                      refine lv_aload_n hx hb dX4_sends_139 rfl (lv_at hl 4 rfl) ?_
                      refine gf_X4_7 X hW 0 rfl rfl dX4_sends_140 ?_
                      refine lv_iload_n hx hb dX4_sends_143 rfl (lv_at hl 5 rfl) ?_
                      refine fz_il X hW 1 (t) rfl rfl (by omega) (by decide) dX4_sends_144 ?_
                      refine fz_cVv X hW (c_X4_meets l g o (m0.farS (upd m0.far t (m0.near t))) (m0.near t) hp) lk_X4_105 (ci := 4) (q0 := 0) rfl rfl rfl rfl ⟨Nat.le_of_ble_eq_true rfl, Nat.le_of_ble_eq_true rfl⟩ hl rfl (Nat.le_of_ble_eq_true rfl) dX4_sends_145 ⟨Nat.le_refl _, Nat.le_refl _⟩ (fun H locs hW => ?_)
                      have hW : fz_W g A s (MW g o (MV.mk9 m0.thr m0.time m0.look m0.near (upd m0.far t (m0.near t)) m0.since m0.ch m0.moves m0.mF m0.mT m0.mW m0.mH (meC m0 (m0.near t)) (upd (shF m0.known (meG m0 (m0.near t)) 0) 0 (m0.near t)) m0.sent m0.used m0.block m0.done m0.worth m0.kept m0.at_)) H locs := hW
                      refine lv_aload_n hx hb dX4_sends_148 rfl (lv_at hl 4 rfl) ?_
                      refine gf_X4_16 X hW 0 rfl rfl dX4_sends_149 ?_
                      refine lv_iload_n hx hb dX4_sends_152 rfl (lv_at hl 5 rfl) ?_
                      refine lv_iconst (v := (-1)) hx hb dX4_sends_153 (by decide) ?_
                      refine fz_is X hW 3 (t) rfl rfl (by omega) (by decide) dX4_sends_154 (fun H locs hW => ?_)
                      refine lv_aload_n hx hb dX4_sends_155 rfl (lv_at hl 4 rfl) ?_
                      refine gf_X4_37 X hW 0 rfl rfl dX4_sends_156 ?_
                      refine lv_iload hx hb dX4_sends_159 (lv_at hl 2 rfl) ?_
                      refine lv_if_ne (tgt := 168) hx hb dX4_sends_161 (by decide) (fun c161 => ?_) (fun c161 => ?_)
                      · skip
                        refine lv_iload hx hb dX4_sends_168 (lv_at hl 1 rfl) ?_
                        refine lv_if_eq (tgt := 177) hx hb dX4_sends_170 (by decide) (fun c170 => ?_) (fun c170 => ?_)
                        · skip
                          refine lv_iconst (v := 3) hx hb dX4_sends_177 (by decide) ?_
                          refine lv_dup2_11 hx hb dX4_sends_178 rfl rfl ?_
                          refine fz_il X hW 10 (3) rfl rfl (by omega) (by decide) dX4_sends_179 ?_
                          refine lv_iconst (v := 1) hx hb dX4_sends_180 (by decide) ?_
                          refine lv_iadd hx hb dX4_sends_181 ?_
                          refine fz_is X hW 10 (3) rfl rfl (by omega) (by decide) dX4_sends_182 (fun H locs hW => ?_)
                          refine lv_iload hx hb dX4_sends_183 (lv_at hl 0 rfl) ?_
                          exact fz_ri X (fz_cast (by unfold msR mpR; rw [if_pos c24, if_neg c45, if_pos c78, if_neg c92]; rfl) hW) (by unfold msR mpR; rw [if_pos c24, if_neg c45, if_pos c78, if_neg c92]) dX4_sends_185
                        · first | exact absurd c170 (by decide) | exact absurd (by decide) c170
                      · first | exact absurd c161 (by decide) | exact absurd (by decide) c161
                  · first | exact absurd c119 (by decide) | exact absurd (by decide) c119
                · first | exact absurd c97 (by decide) | exact absurd (by decide) c97
          · first | exact absurd c66 (by decide) | exact absurd (by decide) c66
        · first | exact absurd c57 (by decide) | exact absurd (by decide) c57
      · skip
        refine lv_iconst (v := 1) hx hb dX4_sends_48 (by decide) ?_
        refine lv_goto (tgt := 53) hx hb dX4_sends_49 (by decide) ?_
        refine lv_istore (lv' := [(5, .int 1), (4, .int 1), (3, .int (1000 + ((m0.near t) / 16))), (0, .ref (o 0)), (1, .int (nI t)), (2, .int left)]) hx hb dX4_sends_53 hl (by decide) rfl (fun ls hl => ?_)
        refine lv_iload hx hb dX4_sends_55 (lv_at hl 1 rfl) ?_
        refine lv_if_ne (tgt := 64) hx hb dX4_sends_57 (by decide) (fun c57 => ?_) (fun c57 => ?_)
        · skip
          refine lv_iload hx hb dX4_sends_64 (lv_at hl 0 rfl) ?_
          refine lv_if_eq (tgt := 73) hx hb dX4_sends_66 (by decide) (fun c66 => ?_) (fun c66 => ?_)
          · first | exact absurd c66 (by decide) | exact absurd (by decide) c66
          · skip
            refine lv_iconst (v := 2) hx hb dX4_sends_69 (by decide) ?_
            refine lv_goto (tgt := 87) hx hb dX4_sends_70 (by decide) ?_
            refine lv_istore (lv' := [(6, .int 2), (5, .int 1), (4, .int 1), (3, .int (1000 + ((m0.near t) / 16))), (0, .ref (o 0)), (1, .int (nI t)), (2, .int left)]) hx hb dX4_sends_87 hl (by decide) rfl (fun ls hl => ?_)
            refine lv_iload hx hb dX4_sends_89 (lv_at hl 0 rfl) ?_
            refine lv_iload_n hx hb dX4_sends_91 rfl (lv_at hl 6 rfl) ?_
            refine lv_icmp_gt (tgt := 110) hx hb dX4_sends_92 (by decide) (fun c92 => ?_) (fun c92 => ?_)
            · skip
              refine lv_iconst (v := 0) hx hb dX4_sends_110 (by decide) ?_
              exact fz_ri X (fz_cast (by unfold msR mrR; rw [if_pos c24, if_pos c45, if_pos c92]) hW) (by unfold msR mrR; rw [if_pos c24, if_pos c45, if_pos c92]) dX4_sends_111
            · skip
              refine lv_iload hx hb dX4_sends_95 (lv_at hl 1 rfl) ?_
              refine lv_if_eq (tgt := 112) hx hb dX4_sends_97 (by decide) (fun c97 => ?_) (fun c97 => ?_)
              · first | exact absurd c97 (by decide) | exact absurd (by decide) c97
              · skip
                refine lv_aload_n hx hb dX4_sends_100 rfl (lv_at hl 4 rfl) ?_
                refine gf_X4_13 X hW 0 rfl rfl dX4_sends_101 ?_
                refine lv_iload_n hx hb dX4_sends_104 rfl (lv_at hl 5 rfl) ?_
                refine fz_il X hW 2 (t) rfl rfl (by omega) (by decide) dX4_sends_105 ?_
                refine lv_iload_n hx hb dX4_sends_106 rfl (lv_at hl 3 rfl) ?_
                refine lv_icmp_ne (tgt := 112) hx hb dX4_sends_107 (by decide) (fun c107 => ?_) (fun c107 => ?_)
                · skip
                  have c107 : ¬ m0.far t = mroI m0 t := c107
                  refine lv_aload_n hx hb dX4_sends_112 rfl (lv_at hl 4 rfl) ?_
                  refine gf_X4_13 X hW 0 rfl rfl dX4_sends_113 ?_
                  refine lv_iload_n hx hb dX4_sends_116 rfl (lv_at hl 5 rfl) ?_
                  refine lv_iload hx hb dX4_sends_117 (lv_at hl 1 rfl) ?_
                  refine lv_if_eq (tgt := 126) hx hb dX4_sends_119 (by decide) (fun c119 => ?_) (fun c119 => ?_)
                  · first | exact absurd c119 (by decide) | exact absurd (by decide) c119
                  · skip
                    refine lv_iload_n hx hb dX4_sends_122 rfl (lv_at hl 3 rfl) ?_
                    refine lv_goto (tgt := 132) hx hb dX4_sends_123 (by decide) ?_
                    refine fz_is X hW 2 (t) rfl rfl (by omega) (by decide) dX4_sends_132 (fun H locs hW => ?_)
                    refine lv_iload hx hb dX4_sends_133 (lv_at hl 1 rfl) ?_
                    refine lv_if_ne (tgt := 155) hx hb dX4_sends_135 (by decide) (fun c135 => ?_) (fun c135 => ?_)
                    · skip
                      refine lv_aload_n hx hb dX4_sends_155 rfl (lv_at hl 4 rfl) ?_
                      refine gf_X4_37 X hW 0 rfl rfl dX4_sends_156 ?_
                      refine lv_iload hx hb dX4_sends_159 (lv_at hl 2 rfl) ?_
                      refine lv_if_ne (tgt := 168) hx hb dX4_sends_161 (by decide) (fun c161 => ?_) (fun c161 => ?_)
                      · skip
                        refine lv_iload hx hb dX4_sends_168 (lv_at hl 1 rfl) ?_
                        refine lv_if_eq (tgt := 177) hx hb dX4_sends_170 (by decide) (fun c170 => ?_) (fun c170 => ?_)
                        · first | exact absurd c170 (by decide) | exact absurd (by decide) c170
                        · skip
                          refine lv_iconst (v := 2) hx hb dX4_sends_173 (by decide) ?_
                          refine lv_goto (tgt := 178) hx hb dX4_sends_174 (by decide) ?_
                          refine lv_dup2_11 hx hb dX4_sends_178 rfl rfl ?_
                          refine fz_il X hW 10 (2) rfl rfl (by omega) (by decide) dX4_sends_179 ?_
                          refine lv_iconst (v := 1) hx hb dX4_sends_180 (by decide) ?_
                          refine lv_iadd hx hb dX4_sends_181 ?_
                          refine fz_is X hW 10 (2) rfl rfl (by omega) (by decide) dX4_sends_182 (fun H locs hW => ?_)
                          refine lv_iload hx hb dX4_sends_183 (lv_at hl 0 rfl) ?_
                          exact fz_ri X (fz_cast (by unfold msR mrR; rw [if_pos c24, if_pos c45, if_neg c92, if_neg c107]; rfl) hW) (by unfold msR mrR; rw [if_pos c24, if_pos c45, if_neg c92, if_neg c107]) dX4_sends_185
                      · first | exact absurd c161 (by decide) | exact absurd (by decide) c161
                    · first | exact absurd c135 (by decide) | exact absurd (by decide) c135
                · skip
                  have c107 : m0.far t = mroI m0 t := c107
                  refine lv_iconst (v := 0) hx hb dX4_sends_110 (by decide) ?_
                  exact fz_ri X (fz_cast (by unfold msR mrR; rw [if_pos c24, if_pos c45, if_neg c92, if_pos c107]) hW) (by unfold msR mrR; rw [if_pos c24, if_pos c45, if_neg c92, if_pos c107]) dX4_sends_111
        · first | exact absurd c57 (by decide) | exact absurd (by decide) c57
