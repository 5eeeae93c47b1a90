/-! the law's cases: move -/
set_option maxHeartbeats 4000000 in
set_option maxRecDepth 100000 in
theorem lc_move {p : Program} {l : Launch} {e : Env} {s : State} {m : MethodId} {args : Array Value} {below : List Frame} {meth : Method} {c : Code} {H : Heap} {locs : List Loc} {cells slots : Nat} {Q : State → Prop} {rt : Option FieldType} {g : GG} {A : Nat → Prop} {ls : Array Slot} {b0 L i K f q : Nat} {xs : Nat → Int32} {a d o : Nat → Nat} {v u : SV} {lf : Nat → Int64} {w : MV} (X : fz_X p s m meth c RL cL_law 7 rt g A) (Y : fz_Y s A) (hN : va_Nc XIA XIO s) (hfl : l.stackTraces = false) (hX : va_X b0 L xs s s.heap) (hbl : b0 < s.heap.size) (hbA : ¬ A b0) (hL : L ≤ 3584) (hi : i + 7 ≤ L) (hB : Both v w K) (hK : K ≤ 1000) (hcs : cells + 5 ≤ 601024 ∧ slots + 30 ≤ 7293034) (hW : fz_W g A s (LW g f a d v u q lf o w) H locs) (hl : lv_has ls 7 (lo5 b0 f (o 0) q i))
    (kk : ∀ (v u : SV) (lf : Nat → Int64) (w : MV) (H : Heap) (locs : List Loc) (ls : Array Slot), Both v w (K + 1) → fz_W g A s (LW g f a d v u q lf o w) H locs → lv_has ls 7 (lo5 b0 f (o 0) q i) → W p l e room_1 s m args below meth c H locs (cells + 5) (slots + 30) Q (F0 m 1006 ls [])) : W p l e room_1 s m args below meth c H locs cells slots Q (F0 m 232 ls []) := by
  have hx := X.1
  have hb := X.2.1
  have hl : lv_has ls 7 [(0, .ref b0), (1, .ref f), (2, .ref (o 0)), (3, .ref q), (4, .int (nI i))] := hl
  have pr := pr_move hB hK (xs (i + 1)) (xs (i + 2)) (xs (i + 3)) (xs (i + 4)) (xs (i + 5)) (xs (i + 6))
  refine lv_aload_n hx hb dL_law_232 rfl (lv_at hl 1 rfl) ?_
  refine lv_aload_n hx hb dL_law_233 rfl (lv_at hl 0 rfl) ?_
  refine lv_iload hx hb dL_law_234 (lv_at hl 4 rfl) ?_
  refine lv_iconst (v := 1) hx hb dL_law_236 (by decide) ?_
  refine lv_iadd hx hb dL_law_237 ?_
  refine fz_sx X hW hX hbl hbA (i + 1) (nI_add i 1) (by omega) hL dL_law_238 ?_
  refine lv_aload_n hx hb dL_law_239 rfl (lv_at hl 0 rfl) ?_
  refine lv_iload hx hb dL_law_240 (lv_at hl 4 rfl) ?_
  refine lv_iconst (v := 2) hx hb dL_law_242 (by decide) ?_
  refine lv_iadd hx hb dL_law_243 ?_
  refine fz_sx X hW hX hbl hbA (i + 2) (nI_add i 2) (by omega) hL dL_law_244 ?_
  refine lv_aload_n hx hb dL_law_245 rfl (lv_at hl 0 rfl) ?_
  refine lv_iload hx hb dL_law_246 (lv_at hl 4 rfl) ?_
  refine lv_iconst (v := 3) hx hb dL_law_248 (by decide) ?_
  refine lv_iadd hx hb dL_law_249 ?_
  refine fz_sx X hW hX hbl hbA (i + 3) (nI_add i 3) (by omega) hL dL_law_250 ?_
  refine lv_aload_n hx hb dL_law_251 rfl (lv_at hl 0 rfl) ?_
  refine lv_iload hx hb dL_law_252 (lv_at hl 4 rfl) ?_
  refine lv_iconst (v := 4) hx hb dL_law_254 (by decide) ?_
  refine lv_iadd hx hb dL_law_255 ?_
  refine fz_sx X hW hX hbl hbA (i + 4) (nI_add i 4) (by omega) hL dL_law_256 ?_
  refine lv_aload_n hx hb dL_law_257 rfl (lv_at hl 0 rfl) ?_
  refine lv_iload hx hb dL_law_258 (lv_at hl 4 rfl) ?_
  refine lv_iconst (v := 5) hx hb dL_law_260 (by decide) ?_
  refine lv_iadd hx hb dL_law_261 ?_
  refine fz_sx X hW hX hbl hbA (i + 5) (nI_add i 5) (by omega) hL dL_law_262 ?_
  refine lv_aload_n hx hb dL_law_263 rfl (lv_at hl 0 rfl) ?_
  refine lv_iload hx hb dL_law_264 (lv_at hl 4 rfl) ?_
  refine lv_bipush (v := 6) hx hb dL_law_266 (by decide) ?_
  refine lv_iadd hx hb dL_law_268 ?_
  refine fz_sx X hW hX hbl hbA (i + 6) (nI_add i 6) (by omega) hL dL_law_269 ?_
  refine lv_aload_n hx hb dL_law_270 rfl (lv_at hl 3 rfl) ?_
  rcases hex : exM (xs (i + 1)) (xs (i + 2)) (xs (i + 3)) (xs (i + 4)) (xs (i + 5)) (xs (i + 6)) with _ | E
  · skip
    obtain ⟨t1, t2, t3⟩ := pr.1 hex
    refine fz_cH X Y hN hW (fz_CH.lw (h_move l hfl g f a d v u q lf (xs (i + 1)) (xs (i + 2)) (xs (i + 3)) (xs (i + 4)) (xs (i + 5)) (xs (i + 6)) (both_sok hB).1.1 (FW g f a d (shV v (mkM (xs (i + 1)).toNatClampNeg (xs (i + 2)).toNatClampNeg (xs (i + 3)).toNatClampNeg (xs (i + 4)).toNatClampNeg (xs (i + 5)).toNatClampNeg (xs (i + 6)).toNatClampNeg)) (u) ++ [LR g q (vp_updL lf 0 (nI (shV v (mkM (xs (i + 1)).toNatClampNeg (xs (i + 2)).toNatClampNeg (xs (i + 3)).toNatClampNeg (xs (i + 4)).toNatClampNeg (xs (i + 5)).toNatClampNeg (xs (i + 6)).toNatClampNeg)).wm).toInt64)]) 0 (fun _ => ⟨rfl, rfl⟩) (fun E z => by rw [hex] at z; cases z)) o w) lh_64 rfl ⟨(Nat.le_of_ble_eq_true rfl), (Nat.le_of_ble_eq_true rfl)⟩ hl rfl (Nat.le_of_ble_eq_true rfl) dL_law_271 (ce1 hcs (by omega) (by omega)) (fun H locs hW => ?_)
    generalize hx1 : nI (shV v (mkM (xs (i + 1)).toNatClampNeg (xs (i + 2)).toNatClampNeg (xs (i + 3)).toNatClampNeg (xs (i + 4)).toNatClampNeg (xs (i + 5)).toNatClampNeg (xs (i + 6)).toNatClampNeg)).wm = x1 at hW t2
    generalize hv1 : shV v (mkM (xs (i + 1)).toNatClampNeg (xs (i + 2)).toNatClampNeg (xs (i + 3)).toNatClampNeg (xs (i + 4)).toNatClampNeg (xs (i + 5)).toNatClampNeg (xs (i + 6)).toNatClampNeg) = v1 at hW t3
    refine lv_istore (lv' := [(5, .int 0), (0, .ref b0), (1, .ref f), (2, .ref (o 0)), (3, .ref q), (4, .int (nI i))]) hx hb dL_law_274 hl (by decide) rfl (fun ls hl => ?_)
    refine lv_aload_n hx hb dL_law_276 rfl (lv_at hl 3 rfl) ?_
    refine lv_aload_n hx hb dL_law_277 rfl (lv_at hl 1 rfl) ?_
    refine lv_iload hx hb dL_law_278 (lv_at hl 5 rfl) ?_
    refine lv_iconst (v := 1) hx hb dL_law_280 (by decide) ?_
    refine lv_iadd hx hb dL_law_281 ?_
    refine fz_sx X hW hX hbl hbA (i + 1) (nI_add i 1) (by omega) hL dL_law_282 ?_
    refine lv_aload_n hx hb dL_law_283 rfl (lv_at hl 1 rfl) ?_
    refine lv_iload hx hb dL_law_284 (lv_at hl 5 rfl) ?_
    refine lv_iconst (v := 2) hx hb dL_law_286 (by decide) ?_
    refine lv_iadd hx hb dL_law_287 ?_
    refine fz_sx X hW hX hbl hbA (i + 2) (nI_add i 2) (by omega) hL dL_law_288 ?_
    refine lv_aload_n hx hb dL_law_289 rfl (lv_at hl 1 rfl) ?_
    refine lv_iload hx hb dL_law_290 (lv_at hl 5 rfl) ?_
    refine lv_iconst (v := 3) hx hb dL_law_292 (by decide) ?_
    refine lv_iadd hx hb dL_law_293 ?_
    refine fz_sx X hW hX hbl hbA (i + 3) (nI_add i 3) (by omega) hL dL_law_294 ?_
    refine lv_aload_n hx hb dL_law_295 rfl (lv_at hl 1 rfl) ?_
    refine lv_iload hx hb dL_law_296 (lv_at hl 5 rfl) ?_
    refine lv_iconst (v := 4) hx hb dL_law_298 (by decide) ?_
    refine lv_iadd hx hb dL_law_299 ?_
    refine fz_sx X hW hX hbl hbA (i + 4) (nI_add i 4) (by omega) hL dL_law_300 ?_
    refine lv_aload_n hx hb dL_law_301 rfl (lv_at hl 1 rfl) ?_
    refine lv_iload hx hb dL_law_302 (lv_at hl 5 rfl) ?_
    refine lv_iconst (v := 5) hx hb dL_law_304 (by decide) ?_
    refine lv_iadd hx hb dL_law_305 ?_
    refine fz_sx X hW hX hbl hbA (i + 5) (nI_add i 5) (by omega) hL dL_law_306 ?_
    refine lv_aload_n hx hb dL_law_307 rfl (lv_at hl 1 rfl) ?_
    refine lv_iload hx hb dL_law_308 (lv_at hl 5 rfl) ?_
    refine lv_bipush (v := 6) hx hb dL_law_310 (by decide) ?_
    refine lv_iadd hx hb dL_law_312 ?_
    refine fz_sx X hW hX hbl hbA (i + 6) (nI_add i 6) (by omega) hL dL_law_313 ?_
    refine fz_cVi X hW (fz_C.lwM (c_X4_move l g o w (xs (i + 1)) (xs (i + 2)) (xs (i + 3)) (xs (i + 4)) (xs (i + 5)) (xs (i + 6)) hB.1.2.2.2.2.2.2.1) f a d v1 u q (vp_updL lf 0 x1.toInt64)) lk_L_67 (ci := 4) (q0 := 36) (rest := []) rfl rfl rfl rfl ⟨(Nat.le_of_ble_eq_true rfl), (Nat.le_of_ble_eq_true rfl)⟩ hl rfl (Nat.le_of_ble_eq_true rfl) dL_law_314 (ce1 hcs (by omega) (by omega)) (fun H locs hW => ?_)
    generalize hw1 : (mmR w (xs (i + 1)) (xs (i + 2)) (xs (i + 3)) (xs (i + 4)) (xs (i + 5)) (xs (i + 6))).2 = w1 at hW t1 t3
    generalize hy1 : (mmR w (xs (i + 1)) (xs (i + 2)) (xs (i + 3)) (xs (i + 4)) (xs (i + 5)) (xs (i + 6))).1 = y1 at t2 ⊢
    refine lv_istore (lv' := [(6, .int y1), (5, .int 0), (0, .ref b0), (1, .ref f), (2, .ref (o 0)), (3, .ref q), (4, .int (nI i))]) hx hb dL_law_317 hl (by decide) rfl (fun ls hl => ?_)
    refine lv_aload_n hx hb dL_law_319 rfl (lv_at hl 4 rfl) ?_
    refine fz_cVi X hW (fz_C.lwM (c_X4_thrown l g o w1) f a d v1 u q (vp_updL lf 0 x1.toInt64)) lk_L_60 (ci := 4) (q0 := 36) rfl rfl rfl rfl ⟨(Nat.le_of_ble_eq_true rfl), (Nat.le_of_ble_eq_true rfl)⟩ hl rfl (Nat.le_of_ble_eq_true rfl) dL_law_320 (ce1 hcs (by omega) (by omega)) (fun H locs hW => ?_)
    refine lv_iload hx hb dL_law_323 (lv_at hl 1 rfl) ?_
    refine lv_icmp_eq (tgt := 330) hx hb dL_law_325 (by decide) (fun c1 => ?_) (fun c1 => absurd t1 c1)
    refine lv_iload hx hb dL_law_330 (lv_at hl 1 rfl) ?_
    refine lv_if_ne (tgt := 347) hx hb dL_law_332 (by decide) (fun c2 => absurd rfl c2) (fun c2 => ?_)
    refine lv_aload_n hx hb dL_law_335 rfl (lv_at hl 5 rfl) ?_
    refine lv_iconst (v := 0) hx hb dL_law_336 (by decide) ?_
    refine fz_jl X hW 35 0 rfl rfl (by omega) (by decide) dL_law_337 ?_
    refine lv_iload hx hb dL_law_338 (lv_at hl 0 rfl) ?_
    refine lv_i2l hx hb dL_law_340 rfl ?_
    refine W.lcmp hx hb dL_law_341 ?_
    refine lv_if_eq (tgt := 347) hx hb dL_law_342 (by decide) (fun c3 => ?_) (fun c3 => absurd (lg_same (by rw [up_0, t2])) c3)
    refine lv_goto (tgt := 1006) hx hb dL_law_347 (by decide) ?_
    refine W.widen (k := cells + 5) (n := slots + 30) (by omega) (by omega) ?_
    exact kk v1 u (vp_updL lf 0 x1.toInt64) w1 _ _ _ t3 hW (lv_sub hl [2, 3, 4, 5, 6] rfl)
  · skip
    obtain ⟨t1, t3⟩ := pr.2 E hex
    refine fz_cH X Y hN hW (fz_CH.lw (h_move l hfl g f a d v u q lf (xs (i + 1)) (xs (i + 2)) (xs (i + 3)) (xs (i + 4)) (xs (i + 5)) (xs (i + 6)) (both_sok hB).1.1 (FW g f a d v u ++ [LR g q lf]) (cd2 E) (fun z => by rw [hex] at z; cases z) (fun E2 z => by rw [hex] at z; cases z; exact ⟨rfl, rfl⟩)) o w) lh_64 rfl ⟨(Nat.le_of_ble_eq_true rfl), (Nat.le_of_ble_eq_true rfl)⟩ hl rfl (Nat.le_of_ble_eq_true rfl) dL_law_271 (ce1 hcs (by omega) (by omega)) (fun H locs hW => ?_)
    refine lv_istore (lv' := [(5, .int (cd2 E)), (0, .ref b0), (1, .ref f), (2, .ref (o 0)), (3, .ref q), (4, .int (nI i))]) hx hb dL_law_274 hl (by decide) rfl (fun ls hl => ?_)
    refine lv_aload_n hx hb dL_law_276 rfl (lv_at hl 3 rfl) ?_
    refine lv_aload_n hx hb dL_law_277 rfl (lv_at hl 1 rfl) ?_
    refine lv_iload hx hb dL_law_278 (lv_at hl 5 rfl) ?_
    refine lv_iconst (v := 1) hx hb dL_law_280 (by decide) ?_
    refine lv_iadd hx hb dL_law_281 ?_
    refine fz_sx X hW hX hbl hbA (i + 1) (nI_add i 1) (by omega) hL dL_law_282 ?_
    refine lv_aload_n hx hb dL_law_283 rfl (lv_at hl 1 rfl) ?_
    refine lv_iload hx hb dL_law_284 (lv_at hl 5 rfl) ?_
    refine lv_iconst (v := 2) hx hb dL_law_286 (by decide) ?_
    refine lv_iadd hx hb dL_law_287 ?_
    refine fz_sx X hW hX hbl hbA (i + 2) (nI_add i 2) (by omega) hL dL_law_288 ?_
    refine lv_aload_n hx hb dL_law_289 rfl (lv_at hl 1 rfl) ?_
    refine lv_iload hx hb dL_law_290 (lv_at hl 5 rfl) ?_
    refine lv_iconst (v := 3) hx hb dL_law_292 (by decide) ?_
    refine lv_iadd hx hb dL_law_293 ?_
    refine fz_sx X hW hX hbl hbA (i + 3) (nI_add i 3) (by omega) hL dL_law_294 ?_
    refine lv_aload_n hx hb dL_law_295 rfl (lv_at hl 1 rfl) ?_
    refine lv_iload hx hb dL_law_296 (lv_at hl 5 rfl) ?_
    refine lv_iconst (v := 4) hx hb dL_law_298 (by decide) ?_
    refine lv_iadd hx hb dL_law_299 ?_
    refine fz_sx X hW hX hbl hbA (i + 4) (nI_add i 4) (by omega) hL dL_law_300 ?_
    refine lv_aload_n hx hb dL_law_301 rfl (lv_at hl 1 rfl) ?_
    refine lv_iload hx hb dL_law_302 (lv_at hl 5 rfl) ?_
    refine lv_iconst (v := 5) hx hb dL_law_304 (by decide) ?_
    refine lv_iadd hx hb dL_law_305 ?_
    refine fz_sx X hW hX hbl hbA (i + 5) (nI_add i 5) (by omega) hL dL_law_306 ?_
    refine lv_aload_n hx hb dL_law_307 rfl (lv_at hl 1 rfl) ?_
    refine lv_iload hx hb dL_law_308 (lv_at hl 5 rfl) ?_
    refine lv_bipush (v := 6) hx hb dL_law_310 (by decide) ?_
    refine lv_iadd hx hb dL_law_312 ?_
    refine fz_sx X hW hX hbl hbA (i + 6) (nI_add i 6) (by omega) hL dL_law_313 ?_
    refine fz_cVi X hW (fz_C.lwM (c_X4_move l g o w (xs (i + 1)) (xs (i + 2)) (xs (i + 3)) (xs (i + 4)) (xs (i + 5)) (xs (i + 6)) hB.1.2.2.2.2.2.2.1) f a d v u q lf) lk_L_67 (ci := 4) (q0 := 36) (rest := []) rfl rfl rfl rfl ⟨(Nat.le_of_ble_eq_true rfl), (Nat.le_of_ble_eq_true rfl)⟩ hl rfl (Nat.le_of_ble_eq_true rfl) dL_law_314 (ce1 hcs (by omega) (by omega)) (fun H locs hW => ?_)
    generalize hw1 : (mmR w (xs (i + 1)) (xs (i + 2)) (xs (i + 3)) (xs (i + 4)) (xs (i + 5)) (xs (i + 6))).2 = w1 at hW t1 t3
    generalize hy1 : (mmR w (xs (i + 1)) (xs (i + 2)) (xs (i + 3)) (xs (i + 4)) (xs (i + 5)) (xs (i + 6))).1 = y1
    refine lv_istore (lv' := [(6, .int y1), (5, .int (cd2 E)), (0, .ref b0), (1, .ref f), (2, .ref (o 0)), (3, .ref q), (4, .int (nI i))]) hx hb dL_law_317 hl (by decide) rfl (fun ls hl => ?_)
    refine lv_aload_n hx hb dL_law_319 rfl (lv_at hl 4 rfl) ?_
    refine fz_cVi X hW (fz_C.lwM (c_X4_thrown l g o w1) f a d v u q lf) lk_L_60 (ci := 4) (q0 := 36) rfl rfl rfl rfl ⟨(Nat.le_of_ble_eq_true rfl), (Nat.le_of_ble_eq_true rfl)⟩ hl rfl (Nat.le_of_ble_eq_true rfl) dL_law_320 (ce1 hcs (by omega) (by omega)) (fun H locs hW => ?_)
    refine lv_iload hx hb dL_law_323 (lv_at hl 1 rfl) ?_
    refine lv_icmp_eq (tgt := 330) hx hb dL_law_325 (by decide) (fun c1 => ?_) (fun c1 => absurd t1 c1)
    refine lv_iload hx hb dL_law_330 (lv_at hl 1 rfl) ?_
    refine lv_if_ne (tgt := 347) hx hb dL_law_332 (by decide) (fun c2 => ?_) (fun c2 => absurd c2 (cd2_0 E))
    refine lv_goto (tgt := 1006) hx hb dL_law_347 (by decide) ?_
    refine W.widen (k := cells + 5) (n := slots + 30) (by omega) (by omega) ?_
    exact kk v u lf w1 _ _ _ t3 hW (lv_sub hl [2, 3, 4, 5, 6] rfl)
