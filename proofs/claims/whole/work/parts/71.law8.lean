/-! the law's cases: fill -/
set_option maxHeartbeats 4000000 in
set_option maxRecDepth 100000 in
theorem lc_fill {p : Program} {l : Launch} {e : Env} {s : State} {m : MethodId} {args : Array Value} {below : List Frame} {meth : Method} {c : Code} {H : Heap} {locs : List Loc} {cells slots : Nat} {Q : State → Prop} {rt : Option FieldType} {g : GG} {A : Nat → Prop} {ls : Array Slot} {b0 L i K f q : Nat} {xs : Nat → Int32} {a d o : Nat → Nat} {v u : SV} {lf : Nat → Int64} {w : MV} (X : fz_X p s m meth c RL cL_law 7 rt g A) (Y : fz_Y s A) (hN : va_Nc XIA XIO s) (hfl : l.stackTraces = false) (hX : va_X b0 L xs s s.heap) (hbl : b0 < s.heap.size) (hbA : ¬ A b0) (hL : L ≤ 3584) (hi : i + 7 ≤ L) (hB : Both v w K) (hK : K ≤ 1000) (hcs : cells + 5 ≤ 601024 ∧ slots + 30 ≤ 7293034) (hW : fz_W g A s (LW g f a d v u q lf o w) H locs) (hl : lv_has ls 7 (lo5 b0 f (o 0) q i))
    (kk : ∀ (v u : SV) (lf : Nat → Int64) (w : MV) (H : Heap) (locs : List Loc) (ls : Array Slot), Both v w (K + 1) → fz_W g A s (LW g f a d v u q lf o w) H locs → lv_has ls 7 (lo5 b0 f (o 0) q i) → W p l e room_1 s m args below meth c H locs (cells + 5) (slots + 30) Q (F0 m 1006 ls [])) : W p l e room_1 s m args below meth c H locs cells slots Q (F0 m 128 ls []) := by
  have hx := X.1
  have hb := X.2.1
  have hl : lv_has ls 7 [(0, .ref b0), (1, .ref f), (2, .ref (o 0)), (3, .ref q), (4, .int (nI i))] := hl
  have pr := pr_fill hB hK (xs (i + 1)) (xs (i + 2)) (xs (i + 3)) (xs (i + 4)) (xs (i + 5))
  refine lv_aload_n hx hb dL_law_128 rfl (lv_at hl 1 rfl) ?_
  refine lv_aload_n hx hb dL_law_129 rfl (lv_at hl 0 rfl) ?_
  refine lv_iload hx hb dL_law_130 (lv_at hl 4 rfl) ?_
  refine lv_iconst (v := 1) hx hb dL_law_132 (by decide) ?_
  refine lv_iadd hx hb dL_law_133 ?_
  refine fz_sx X hW hX hbl hbA (i + 1) (nI_add i 1) (by omega) hL dL_law_134 ?_
  refine lv_aload_n hx hb dL_law_135 rfl (lv_at hl 0 rfl) ?_
  refine lv_iload hx hb dL_law_136 (lv_at hl 4 rfl) ?_
  refine lv_iconst (v := 2) hx hb dL_law_138 (by decide) ?_
  refine lv_iadd hx hb dL_law_139 ?_
  refine fz_sx X hW hX hbl hbA (i + 2) (nI_add i 2) (by omega) hL dL_law_140 ?_
  refine lv_aload_n hx hb dL_law_141 rfl (lv_at hl 0 rfl) ?_
  refine lv_iload hx hb dL_law_142 (lv_at hl 4 rfl) ?_
  refine lv_iconst (v := 3) hx hb dL_law_144 (by decide) ?_
  refine lv_iadd hx hb dL_law_145 ?_
  refine fz_sx X hW hX hbl hbA (i + 3) (nI_add i 3) (by omega) hL dL_law_146 ?_
  refine lv_aload_n hx hb dL_law_147 rfl (lv_at hl 0 rfl) ?_
  refine lv_iload hx hb dL_law_148 (lv_at hl 4 rfl) ?_
  refine lv_iconst (v := 4) hx hb dL_law_150 (by decide) ?_
  refine lv_iadd hx hb dL_law_151 ?_
  refine fz_sx X hW hX hbl hbA (i + 4) (nI_add i 4) (by omega) hL dL_law_152 ?_
  refine lv_aload_n hx hb dL_law_153 rfl (lv_at hl 0 rfl) ?_
  refine lv_iload hx hb dL_law_154 (lv_at hl 4 rfl) ?_
  refine lv_iconst (v := 5) hx hb dL_law_156 (by decide) ?_
  refine lv_iadd hx hb dL_law_157 ?_
  refine fz_sx X hW hX hbl hbA (i + 5) (nI_add i 5) (by omega) hL dL_law_158 ?_
  refine lv_aload_n hx hb dL_law_159 rfl (lv_at hl 3 rfl) ?_
  rcases hex : exF (xs (i + 1)) (xs (i + 2)) (xs (i + 3)) (xs (i + 4)) (xs (i + 5)) with _ | E
  · skip
    obtain ⟨t1, t2, t3⟩ := pr.1 hex
    refine fz_cH X Y hN hW (fz_CH.lw (h_fill l hfl g f a d v u q lf (xs (i + 1)) (xs (i + 2)) (xs (i + 3)) (xs (i + 4)) (xs (i + 5)) (FW g f a d (paV v (xs (i + 1)).toNatClampNeg (xs (i + 2)).toNatClampNeg (xs (i + 3)).toNatClampNeg (xs (i + 4)).toNatClampNeg (xs (i + 5))) (u) ++ [LR g q (vp_updL lf 0 (bcL (usF (paV v (xs (i + 1)).toNatClampNeg (xs (i + 2)).toNatClampNeg (xs (i + 3)).toNatClampNeg (xs (i + 4)).toNatClampNeg (xs (i + 5))) 48)).toInt64)]) 0 (fun _ => ⟨rfl, rfl⟩) (fun E z => by rw [hex] at z; cases z)) o w) lh_54 rfl ⟨(Nat.le_of_ble_eq_true rfl), (Nat.le_of_ble_eq_true rfl)⟩ hl rfl (Nat.le_of_ble_eq_true rfl) dL_law_160 (ce1 hcs (by omega) (by omega)) (fun H locs hW => ?_)
    generalize hx1 : bcL (usF (paV v (xs (i + 1)).toNatClampNeg (xs (i + 2)).toNatClampNeg (xs (i + 3)).toNatClampNeg (xs (i + 4)).toNatClampNeg (xs (i + 5))) 48) = x1 at hW t2
    generalize hv1 : paV v (xs (i + 1)).toNatClampNeg (xs (i + 2)).toNatClampNeg (xs (i + 3)).toNatClampNeg (xs (i + 4)).toNatClampNeg (xs (i + 5)) = v1 at hW t3
    refine lv_istore (lv' := [(5, .int 0), (0, .ref b0), (1, .ref f), (2, .ref (o 0)), (3, .ref q), (4, .int (nI i))]) hx hb dL_law_163 hl (by decide) rfl (fun ls hl => ?_)
    refine lv_aload_n hx hb dL_law_165 rfl (lv_at hl 3 rfl) ?_
    refine lv_aload_n hx hb dL_law_166 rfl (lv_at hl 1 rfl) ?_
    refine lv_iload hx hb dL_law_167 (lv_at hl 5 rfl) ?_
    refine lv_iconst (v := 1) hx hb dL_law_169 (by decide) ?_
    refine lv_iadd hx hb dL_law_170 ?_
    refine fz_sx X hW hX hbl hbA (i + 1) (nI_add i 1) (by omega) hL dL_law_171 ?_
    refine lv_aload_n hx hb dL_law_172 rfl (lv_at hl 1 rfl) ?_
    refine lv_iload hx hb dL_law_173 (lv_at hl 5 rfl) ?_
    refine lv_iconst (v := 2) hx hb dL_law_175 (by decide) ?_
    refine lv_iadd hx hb dL_law_176 ?_
    refine fz_sx X hW hX hbl hbA (i + 2) (nI_add i 2) (by omega) hL dL_law_177 ?_
    refine lv_aload_n hx hb dL_law_178 rfl (lv_at hl 1 rfl) ?_
    refine lv_iload hx hb dL_law_179 (lv_at hl 5 rfl) ?_
    refine lv_iconst (v := 3) hx hb dL_law_181 (by decide) ?_
    refine lv_iadd hx hb dL_law_182 ?_
    refine fz_sx X hW hX hbl hbA (i + 3) (nI_add i 3) (by omega) hL dL_law_183 ?_
    refine lv_aload_n hx hb dL_law_184 rfl (lv_at hl 1 rfl) ?_
    refine lv_iload hx hb dL_law_185 (lv_at hl 5 rfl) ?_
    refine lv_iconst (v := 4) hx hb dL_law_187 (by decide) ?_
    refine lv_iadd hx hb dL_law_188 ?_
    refine fz_sx X hW hX hbl hbA (i + 4) (nI_add i 4) (by omega) hL dL_law_189 ?_
    refine lv_aload_n hx hb dL_law_190 rfl (lv_at hl 1 rfl) ?_
    refine lv_iload hx hb dL_law_191 (lv_at hl 5 rfl) ?_
    refine lv_iconst (v := 5) hx hb dL_law_193 (by decide) ?_
    refine lv_iadd hx hb dL_law_194 ?_
    refine fz_sx X hW hX hbl hbA (i + 5) (nI_add i 5) (by omega) hL dL_law_195 ?_
    refine fz_cVi X hW (fz_C.lwM (c_X4_fill l g o w (xs (i + 1)) (xs (i + 2)) (xs (i + 3)) (xs (i + 4)) (xs (i + 5))) f a d v1 u q (vp_updL lf 0 x1.toInt64)) lk_L_59 (ci := 4) (q0 := 36) (rest := []) rfl rfl rfl rfl ⟨(Nat.le_of_ble_eq_true rfl), (Nat.le_of_ble_eq_true rfl)⟩ hl rfl (Nat.le_of_ble_eq_true rfl) dL_law_196 (ce1 hcs (by omega) (by omega)) (fun H locs hW => ?_)
    generalize hw1 : (mfR w (xs (i + 1)) (xs (i + 2)) (xs (i + 3)) (xs (i + 4)) (xs (i + 5))).2 = w1 at hW t1 t3
    generalize hy1 : (mfR w (xs (i + 1)) (xs (i + 2)) (xs (i + 3)) (xs (i + 4)) (xs (i + 5))).1 = y1 at t2 ⊢
    refine lv_istore (lv' := [(6, .int y1), (5, .int 0), (0, .ref b0), (1, .ref f), (2, .ref (o 0)), (3, .ref q), (4, .int (nI i))]) hx hb dL_law_199 hl (by decide) rfl (fun ls hl => ?_)
    refine lv_aload_n hx hb dL_law_201 rfl (lv_at hl 4 rfl) ?_
    refine fz_cVi X hW (fz_C.lwM (c_X4_thrown l g o w1) f a d v1 u q (vp_updL lf 0 x1.toInt64)) lk_L_60 (ci := 4) (q0 := 36) rfl rfl rfl rfl ⟨(Nat.le_of_ble_eq_true rfl), (Nat.le_of_ble_eq_true rfl)⟩ hl rfl (Nat.le_of_ble_eq_true rfl) dL_law_202 (ce1 hcs (by omega) (by omega)) (fun H locs hW => ?_)
    refine lv_iload hx hb dL_law_205 (lv_at hl 1 rfl) ?_
    refine lv_icmp_eq (tgt := 212) hx hb dL_law_207 (by decide) (fun c1 => ?_) (fun c1 => absurd t1 c1)
    refine lv_iload hx hb dL_law_212 (lv_at hl 1 rfl) ?_
    refine lv_if_ne (tgt := 229) hx hb dL_law_214 (by decide) (fun c2 => absurd rfl c2) (fun c2 => ?_)
    refine lv_aload_n hx hb dL_law_217 rfl (lv_at hl 5 rfl) ?_
    refine lv_iconst (v := 0) hx hb dL_law_218 (by decide) ?_
    refine fz_jl X hW 35 0 rfl rfl (by omega) (by decide) dL_law_219 ?_
    refine lv_iload hx hb dL_law_220 (lv_at hl 0 rfl) ?_
    refine lv_i2l hx hb dL_law_222 rfl ?_
    refine W.lcmp hx hb dL_law_223 ?_
    refine lv_if_eq (tgt := 229) hx hb dL_law_224 (by decide) (fun c3 => ?_) (fun c3 => absurd (lg_same (by rw [up_0, t2])) c3)
    refine lv_goto (tgt := 1006) hx hb dL_law_229 (by decide) ?_
    refine W.widen (k := cells + 5) (n := slots + 30) (by omega) (by omega) ?_
    exact kk v1 u (vp_updL lf 0 x1.toInt64) w1 _ _ _ t3 hW (lv_sub hl [2, 3, 4, 5, 6] rfl)
  · skip
    obtain ⟨t1, t3⟩ := pr.2 E hex
    refine fz_cH X Y hN hW (fz_CH.lw (h_fill l hfl g f a d v u q lf (xs (i + 1)) (xs (i + 2)) (xs (i + 3)) (xs (i + 4)) (xs (i + 5)) (FW g f a d v u ++ [LR g q lf]) (cd2 E) (fun z => by rw [hex] at z; cases z) (fun E2 z => by rw [hex] at z; cases z; exact ⟨rfl, rfl⟩)) o w) lh_54 rfl ⟨(Nat.le_of_ble_eq_true rfl), (Nat.le_of_ble_eq_true rfl)⟩ hl rfl (Nat.le_of_ble_eq_true rfl) dL_law_160 (ce1 hcs (by omega) (by omega)) (fun H locs hW => ?_)
    refine lv_istore (lv' := [(5, .int (cd2 E)), (0, .ref b0), (1, .ref f), (2, .ref (o 0)), (3, .ref q), (4, .int (nI i))]) hx hb dL_law_163 hl (by decide) rfl (fun ls hl => ?_)
    refine lv_aload_n hx hb dL_law_165 rfl (lv_at hl 3 rfl) ?_
    refine lv_aload_n hx hb dL_law_166 rfl (lv_at hl 1 rfl) ?_
    refine lv_iload hx hb dL_law_167 (lv_at hl 5 rfl) ?_
    refine lv_iconst (v := 1) hx hb dL_law_169 (by decide) ?_
    refine lv_iadd hx hb dL_law_170 ?_
    refine fz_sx X hW hX hbl hbA (i + 1) (nI_add i 1) (by omega) hL dL_law_171 ?_
    refine lv_aload_n hx hb dL_law_172 rfl (lv_at hl 1 rfl) ?_
    refine lv_iload hx hb dL_law_173 (lv_at hl 5 rfl) ?_
    refine lv_iconst (v := 2) hx hb dL_law_175 (by decide) ?_
    refine lv_iadd hx hb dL_law_176 ?_
    refine fz_sx X hW hX hbl hbA (i + 2) (nI_add i 2) (by omega) hL dL_law_177 ?_
    refine lv_aload_n hx hb dL_law_178 rfl (lv_at hl 1 rfl) ?_
    refine lv_iload hx hb dL_law_179 (lv_at hl 5 rfl) ?_
    refine lv_iconst (v := 3) hx hb dL_law_181 (by decide) ?_
    refine lv_iadd hx hb dL_law_182 ?_
    refine fz_sx X hW hX hbl hbA (i + 3) (nI_add i 3) (by omega) hL dL_law_183 ?_
    refine lv_aload_n hx hb dL_law_184 rfl (lv_at hl 1 rfl) ?_
    refine lv_iload hx hb dL_law_185 (lv_at hl 5 rfl) ?_
    refine lv_iconst (v := 4) hx hb dL_law_187 (by decide) ?_
    refine lv_iadd hx hb dL_law_188 ?_
    refine fz_sx X hW hX hbl hbA (i + 4) (nI_add i 4) (by omega) hL dL_law_189 ?_
    refine lv_aload_n hx hb dL_law_190 rfl (lv_at hl 1 rfl) ?_
    refine lv_iload hx hb dL_law_191 (lv_at hl 5 rfl) ?_
    refine lv_iconst (v := 5) hx hb dL_law_193 (by decide) ?_
    refine lv_iadd hx hb dL_law_194 ?_
    refine fz_sx X hW hX hbl hbA (i + 5) (nI_add i 5) (by omega) hL dL_law_195 ?_
    refine fz_cVi X hW (fz_C.lwM (c_X4_fill l g o w (xs (i + 1)) (xs (i + 2)) (xs (i + 3)) (xs (i + 4)) (xs (i + 5))) f a d v u q lf) lk_L_59 (ci := 4) (q0 := 36) (rest := []) rfl rfl rfl rfl ⟨(Nat.le_of_ble_eq_true rfl), (Nat.le_of_ble_eq_true rfl)⟩ hl rfl (Nat.le_of_ble_eq_true rfl) dL_law_196 (ce1 hcs (by omega) (by omega)) (fun H locs hW => ?_)
    generalize hw1 : (mfR w (xs (i + 1)) (xs (i + 2)) (xs (i + 3)) (xs (i + 4)) (xs (i + 5))).2 = w1 at hW t1 t3
    generalize hy1 : (mfR w (xs (i + 1)) (xs (i + 2)) (xs (i + 3)) (xs (i + 4)) (xs (i + 5))).1 = y1
    refine lv_istore (lv' := [(6, .int y1), (5, .int (cd2 E)), (0, .ref b0), (1, .ref f), (2, .ref (o 0)), (3, .ref q), (4, .int (nI i))]) hx hb dL_law_199 hl (by decide) rfl (fun ls hl => ?_)
    refine lv_aload_n hx hb dL_law_201 rfl (lv_at hl 4 rfl) ?_
    refine fz_cVi X hW (fz_C.lwM (c_X4_thrown l g o w1) f a d v u q lf) lk_L_60 (ci := 4) (q0 := 36) rfl rfl rfl rfl ⟨(Nat.le_of_ble_eq_true rfl), (Nat.le_of_ble_eq_true rfl)⟩ hl rfl (Nat.le_of_ble_eq_true rfl) dL_law_202 (ce1 hcs (by omega) (by omega)) (fun H locs hW => ?_)
    refine lv_iload hx hb dL_law_205 (lv_at hl 1 rfl) ?_
    refine lv_icmp_eq (tgt := 212) hx hb dL_law_207 (by decide) (fun c1 => ?_) (fun c1 => absurd t1 c1)
    refine lv_iload hx hb dL_law_212 (lv_at hl 1 rfl) ?_
    refine lv_if_ne (tgt := 229) hx hb dL_law_214 (by decide) (fun c2 => ?_) (fun c2 => absurd c2 (cd2_0 E))
    refine lv_goto (tgt := 1006) hx hb dL_law_229 (by decide) ?_
    refine W.widen (k := cells + 5) (n := slots + 30) (by omega) (by omega) ?_
    exact kk v u lf w1 _ _ _ t3 hW (lv_sub hl [2, 3, 4, 5, 6] rfl)
